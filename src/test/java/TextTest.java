/** Promises 27 to 29: the text. */
public final class TextTest {
    public static void main(String[] args) {
        feed();
        wipe();
        wall();
        tokens();
        faults();
        fullWalls();
        Due.end();
    }

    private static int told(SlipWall x, String text) {
        Due.tape(x, text);
        return x.wall();
    }

    /** The place of the FAULT in a text, on a new wall; the wall stays as it was. */
    private static void fault(String text, int place) {
        SlipWall x = new SlipWall();
        Due.due("29 '" + text + "'", told(x, text), -1 - place);
        Due.due("29 nothing comes of '" + text + "'", x.count(0) + x.count(1), 0);
        Due.due("29 MOVES stay with '" + text + "'", x.now(1), 3);
        Due.due("29 the tape is empty after '" + text + "'", x.count(2), 0);
        Due.due("29 no finding with '" + text + "'", x.status(-1), 0);
    }

    private static void right(String text, int items) {
        Due.due("29 '" + text + "'", told(new SlipWall(), text), items);
    }

    /** Promise 27. */
    private static void feed() {
        SlipWall x = new SlipWall();
        Due.due("27 n below", x.feed(0, 0), Due.BEYOND);
        Due.due("27 n above", x.feed(0, 5), Due.BEYOND);
        Due.due("27 one", x.feed('m', 1), 1);
        Due.due("27 two", x.feed('o' << 8 | 'v', 2), 3);
        Due.due("27 three", x.feed('X' << 24 | 'e' << 16 | 's' << 8 | '1', 3), 6);
        Due.due("27 in their order", x.wall(), 1);
        Due.due("27 moves 1", x.now(1), 1);
        for (int i = 1; i <= 29; i++) {
            Due.due("27 fours", x.feed(-1, 4), 4 * i);
        }
        Due.due("27 three more", x.feed(-1, 3), 119);
        Due.due("27 full", x.feed(-1, 2), Due.FULL);
        Due.due("27 beyond comes first", x.feed(-1, 5), Due.BEYOND);
        Due.due("27 the last", x.feed(-1, 1), 120);
        Due.due("27 full now", x.feed(-1, 1), Due.FULL);
        Due.due("27 stays", x.count(2), 120);
    }

    /** Promise 28. */
    private static void wipe() {
        SlipWall x = new SlipWall();
        Due.due("28 empty", x.wipe(), 0);
        x.feed(0, 3);
        Due.due("28 three", x.wipe(), 3);
        Due.due("28 empty again", x.wipe(), 0);
        Due.due("28 the text begins anew", told(x, "pen"), 1);
    }

    /** Promise 29. */
    private static void wall() {
        SlipWall x = new SlipWall();
        x.slip(2);
        x.person(3);
        Due.due("29 five items", told(x, "slip 4 fixed; slip floor;loud wants 5 4 3 ; quiet;moves 0"), 5);
        Due.due("29 the tape is empty", x.count(2), 0);
        Due.due("29 slips", x.count(0), 3);
        Due.due("29 the first stays", x.slipOf(0, 0), 2);
        Due.due("29 in 4", x.slipOf(1, 0), 4);
        Due.due("29 fixed", x.now(4), 2);
        Due.due("29 on the floor", x.slipOf(2, 0), -1);
        Due.due("29 people", x.count(1), 3);
        Due.due("29 loud", x.of(1, 0), 1);
        Due.due("29 quiet", x.of(2, 0), 5);
        Due.due("29 moves", x.now(1), 0);
        int[] wants = {5, 4, 3, 3, 4, 5, 0, 1, 2, 3};
        for (int i = 0; i < 10; i++) {
            Due.due("29 wants " + i, x.wants(1, i, 0), wants[i]);
            Due.due("29 wants as at first " + i, x.wants(2, i, 0), i % 6);
        }
        String[] names = {"person", "loud", "shy", "boss", "pen", "quiet"};
        for (int kind = 0; kind < 6; kind++) {
            SlipWall y = new SlipWall();
            Due.due("29 " + names[kind], told(y, names[kind] + " wants 1 1 1 1 1"), 1);
            Due.due("29 kind", y.of(0, 0), kind);
            Due.due("29 wants the fifth in 1", y.wants(0, 4, 0), 1);
        }
        SlipWall z = new SlipWall();
        Due.due("29 the last moves stay", told(z, "moves 5;moves 99;moves 7"), 3);
        Due.due("29 seven", z.now(1), 7);
    }

    /** TOKENS are as long as can be; blanks need not stand between. */
    private static void tokens() {
        right("  slip0fixed;pen  ", 2);
        right("slip 0000000000000000005", 1);
        right("moves 099", 1);
        fault("penwants", 0);
        right("pen wants0 1 2 3 4", 1);
        right(" pen;pen;pen;pen;pen;pen;moves 1;moves 2", 8);
        fault("pen wants 01234", 10);
        fault("slip 4fixedfixed", 6);
        fault("moves 4294967295", 6);
        fault("moves 18446744073709551617", 6);
        fault("slip 1000", 5);
        fault("sli p 0", 0);
        fault("slip\t0", 4);
        fault("Slip 0", 0);
        fault("slip 0.", 6);
        fault("slip 0\n", 6);
        fault("slip 0 \u00e9", 7);
        fault("slip -1", 5);
    }

    private static void faults() {
        fault("", 0);
        fault("   ", 3);
        fault(";", 0);
        fault("slip", 4);
        fault("slip  ", 6);
        fault("slip 0;", 7);
        fault("slip 0;;", 7);
        fault("slip 0; ;slip 0", 8);
        fault("slip 6", 5);
        fault("slip fixed", 5);
        fault("slip loud", 5);
        fault("slip floor floor", 11);
        fault("slip 0 0", 7);
        fault("slip 0 slip 0", 7);
        fault("slip 0 fixed fixed", 13);
        fault("slip 0 fixed 1", 13);
        fault("fixed", 0);
        fault("floor", 0);
        fault("wants 1", 0);
        fault("5", 0);
        fault("moves", 5);
        fault("moves 100", 6);
        fault("moves floor", 6);
        fault("moves 1 2", 8);
        fault("moves 9; moves ;", 15);
        fault("loud wants", 10);
        fault("loud wants ;", 11);
        fault("loud wants 6", 11);
        fault("loud wants 1 6", 13);
        fault("loud wants 1 2 3 4 5 0", 21);
        fault("loud wants 1 wants 1", 13);
        fault("loud wants floor", 11);
        fault("loud 1", 5);
        fault("loud fixed", 5);
        fault("loud loud", 5);
        fault("loud; moves 4; slip 1; what", 23);
        fault("slip 1; pen wants 3; slip 0 ?", 28);
    }

    /** An 11th slip and a 7th one are FAULTS at their own places, counted with what there is. */
    private static void fullWalls() {
        SlipWall x = new SlipWall();
        for (int i = 0; i < 9; i++) {
            x.slip(0);
        }
        Due.due("29 the 11th slip", told(x, "slip 1;slip 9"), -8);
        Due.due("29 nine stay", x.count(0), 9);
        Due.due("29 the 10th slip", told(x, "slip 1"), 1);
        Due.due("29 no more", told(x, "moves 1; slip 1"), -10);
        SlipWall y = new SlipWall();
        for (int i = 0; i < 5; i++) {
            y.person(0);
        }
        Due.due("29 the 7th", told(y, "shy;shy"), -5);
        Due.due("29 five stay", y.count(1), 5);
        Due.due("29 the 6th", told(y, "shy"), 1);
        Due.due("29 no more", told(y, "pen"), -1);
        StringBuilder long120 = new StringBuilder("moves 1");
        while (long120.length() + 8 <= 119) {
            long120.append(";moves 2");
        }
        while (long120.length() < 120) {
            long120.append(' ');
        }
        right(long120.toString(), 15);
        right("moves " + "0".repeat(112) + "99", 1);
        fault("moves " + "9".repeat(114), 6);
    }
}
