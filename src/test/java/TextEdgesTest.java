/** The edges of promises 27 to 29: THE TAPE, and every FAULT that THE TEXT of a WALL can have. */
public final class TextEdgesTest {
    /** 120 bytes without a FAULT. */
    private static final String LONGEST = "moves 12;".repeat(13) + "shy";
    private static final String[] KINDS = {"person", "loud", "shy", "boss", "pen", "quiet"};

    public static void main(String[] args) {
        feed();
        wipe();
        wall();
        endsTooEarly();
        everyByte();
        everyNumber();
        otherWords();
        oneLetterOther();
        sixthNumber();
        eleventhSlip();
        seventhOne();
        places();
        Due.end();
    }

    private static void fault(String label, String text, int place) {
        Run.fault("29 " + label, "", text, place);
    }

    private static void right(String label, String text, int items) {
        Run.of("29 " + label + " '" + text + "'", "tape:" + text, "wall()=" + items + " count(2)=0 status(-1)=0");
    }

    /** Promise 27: n 1 to 4, at most 120 bytes. */
    private static void feed() {
        Run.of("27 n: the least", "feed(0,1)=1 count(2)=1");
        Run.each("27 n: below", "feed(112,1)", "BEYOND", "feed(0,0)", "feed(0,-1)", "feed(0,MIN)");
        Run.of("27 n: the most", "feed(0,4)=4 count(2)=4");
        Run.each("27 n: above", "feed(112,1)", "BEYOND", "feed(0,5)", "feed(0,8)", "feed(0,MAX)");
        Run.of("27 one byte, the lowest", "tape:moves ", "feed(2147483447,1)=7 wall()=1 now(1)=7");
        Run.of("27 two bytes, the highest of these first", "tape:moves ", "feed(-52685,2)=8 wall()=1 now(1)=23");
        Run.of("27 three bytes of four", "tape:move", "feed(2138251314,3)=7 wall()=1 now(1)=2");
        Run.of("27 four bytes, no sign among them", "feed(MIN,4)=4 wall()=-1");
        Run.of("27 four bytes in their order", "feed(1885695547,4)=4 feed(7563385,3)=7 wall()=2 of(0,0)=4 of(1,0)=2");
        String most = "feed(0,4) ".repeat(29);
        Run.of("27 the 120th byte, by four", most + "feed(0,4)=120 count(2)=120");
        Run.of("27 the 120th byte, by one", most + "feed(0,3)=119 feed(0,1)=120");
        Run.of("27 a 121st byte", most + "feed(0,4)=120 feed(0,1)=FULL count(2)=120");
        Run.of("27 four bytes where three have room", most + "feed(0,1)=117 feed(0,4)=FULL count(2)=117 feed(0,3)=120");
        Run.of("27 two bytes where one has room", most + "feed(0,3)=119 feed(0,2)=FULL count(2)=119");
        Run.each("27 BEYOND is asked before FULL", most + "feed(0,4)", "BEYOND", "feed(0,0)", "feed(0,5)", "feed(0,-1)");
        Run.of("27 nothing of a refused call comes", "tape:" + "pen".repeat(40), "feed(0,4)=FULL feed(0,1)=FULL wall()=-1");
        Run.of("27 a full tape, text and all", "tape:" + LONGEST, "feed(0,1)=FULL feed(0,0)=BEYOND wall()=14 now(1)=12 of(0,0)=2");
        Run.of("27 room again", "tape:" + LONGEST, "wipe()=120 feed(0,4)=4");
    }

    /** Promise 28. */
    private static void wipe() {
        Run.of("28 an empty tape", "wipe()=0 wipe()=0 status(-1)=0");
        Run.of("28 one byte", "feed(0,1) wipe()=1 count(2)=0");
        Run.of("28 a full tape", "tape:" + LONGEST, "wipe()=120 count(2)=0 wipe()=0");
        Run.of("28 nothing of it is left", "tape:slip", "wipe()=4", "tape:pen", "wall()=1 count(0)=0 count(1)=1");
    }

    /** Promise 29. */
    private static void wall() {
        right("one ITEM", "pen", 1);
        right("14 ITEMS in 120 bytes", LONGEST, 14);
        right("as many ITEMS as can be", "moves1;".repeat(16) + "moves1", 17);
        right("blanks ahead, between and behind", "  slip  3  fixed  ;  pen  wants  1  2  ;  moves  9  ", 3);
        right("no blanks where none need be", "slip3fixed;slip floor;pen wants1;moves9", 4);
        Run.of("29 THE TAPE is empty then", "tape:pen", "wall()=1 wipe()=0 wall()=-1");
        Run.of("29 THE TAPE is empty after a FAULT", "tape:pan", "wall()=-1 wipe()=0", "tape:pen", "wall()=1");
        Run.of("29 ITEMS come to what there is", "slip(3) person(3) moves(9)", "tape:slip 4;shy", "wall()=2"
            + " count(0)=2 count(1)=2 slipOf(0,0)=3 slipOf(1,0)=4 of(0,0)=3 of(1,0)=2 now(1)=9");
        Run.of("29 MINUTE stays", "minutes(7)", "tape:slip 4", "wall()=1 now(0)=7");
        Run.of("29 a slip from a text is new", "tape:slip 4", "wall()=1 slipOf(0,0)=4 slipOf(0,1)=0 slipOf(0,2)=0");
        Run.of("29 fixed", "tape:slip floor fixed", "wall()=1 slipOf(0,0)=-1 slipOf(0,1)=0 slipOf(0,2)=1");
        Run.of("29 moves: the least", "tape:moves 0", "wall()=1 now(1)=0");
        Run.of("29 moves: the most", "tape:moves 99", "wall()=1 now(1)=99");
        for (int kind = 0; kind < 6; kind++) {
            Run.of("29 the name of KIND " + kind, "tape:" + KINDS[kind], "wall()=1 of(0,0)=" + kind + " of(0,1)=0");
        }
        Run.of("29 without wants as at first", "tape:loud", "wall()=1 wants(0,0,0)=0 wants(0,5,0)=5 wants(0,6,0)=0 wants(0,9,0)=3");
        Run.of("29 wants one, the rest as at first", "tape:loud wants 5", "wall()=1 wants(0,0,0)=5 wants(0,1,0)=1");
        Run.of("29 wants five, the rest as at first", "tape:loud wants 5 4 3 2 0",
            "wall()=1 wants(0,0,0)=5 wants(0,1,0)=4 wants(0,2,0)=3 wants(0,3,0)=2 wants(0,4,0)=0 wants(0,5,0)=5");
        Run.fault("29 nothing changes with a FAULT at the end", "slip(3) person(3) moves(9) minutes(2) image() ",
            "slip 4 fixed;shy wants 5;moves 1;slip 9", 38);
    }

    /** How many bytes there are, if it ends too early: each beginning of a text. */
    private static void endsTooEarly() {
        fault("an empty tape", "", 0);
        fault("blanks alone", " ", 1);
        fault("blanks alone, as many as can be", " ".repeat(120), 120);
        fault("blanks behind count too", "slip   ", 7);
        fault("a full tape", " ".repeat(116) + "slip", 120);
        fault("behind SIGN ;", "pen;" + " ".repeat(116), 120);
        String text = "slip 3 fixed;pen wants 1 2;moves 9";
        // What each beginning is due: a number of ITEMS above 0, or -1 less the place of the FAULT.
        int[] due = {-1, -1, -1, -1, -5, -6, 1, 1, -8, -8, -8, -8, 1, -14, -14, -14, 2, 2, -18, -18, -18, -18, -23, -24, 2, 2,
            2, -28, -28, -28, -28, -28, -33, -34, 3};
        for (int n = 0; n <= text.length(); n++) {
            if (due[n] > 0) {
                right("a beginning", text.substring(0, n), due[n]);
            } else {
                fault("a beginning", text.substring(0, n), -1 - due[n]);
            }
        }
    }

    private static boolean isLetter(int b) {
        return b >= 'a' && b <= 'z';
    }

    private static boolean isDigit(int b) {
        return b >= '0' && b <= '9';
    }

    private static int told(String text) {
        SlipWall x = new SlipWall();
        Due.tape(x, text);
        return x.wall();
    }

    /** A byte that begins no TOKEN, and each that does: alone, behind a NUMBER and behind a WORD. */
    private static void everyByte() {
        for (int b = 0; b < 256; b++) {
            int other = isLetter(b) ? -7 : b == ';' ? -8 : b == ' ' ? 1 : -7;
            Due.due("29 byte " + b + " alone", told("" + (char) b), b == ' ' ? -2 : -1);
            Due.due("29 byte " + b + " behind a NUMBER", told("slip 0" + (char) b), isDigit(b) ? b <= '5' ? 1 : -6 : other);
            int behindWord = isLetter(b) ? -1 : b == ';' ? -5 : b == ' ' ? 1 : -4;
            Due.due("29 byte " + b + " behind a WORD", told("pen" + (char) b), behindWord);
            int behindSign = b == ' ' ? -6 : -5;
            Due.due("29 byte " + b + " behind SIGN ;", told("pen;" + (char) b), behindSign);
        }
    }

    /** A NUMBER that may be or may not: all up to 999, and beyond. */
    private static void everyNumber() {
        for (int v = 0; v <= 1001; v++) {
            Due.due("29 slip " + v, told("slip " + v), v <= 5 ? 1 : -6);
            Due.due("29 moves " + v, told("moves " + v), v <= 99 ? 1 : -7);
            Due.due("29 pen wants " + v, told("pen wants " + v), v <= 5 ? 1 : -11);
            Due.due("29 pen wants 0 " + v, told("pen wants 0 " + v), v <= 5 ? 1 : -13);
        }
        fault("a GROUP above", "slip 6", 5);
        fault("a GROUP above, wanted", "pen wants 6", 10);
        fault("a GROUP above, wanted last", "pen wants 0 1 2 3 6", 18);
        fault("MOVES above", "moves 100", 6);
        fault("999", "moves 999", 6);
        fault("above 999", "moves 1000", 6);
        fault("no wrap-around in 8 bits", "slip 256", 5);
        fault("no wrap-around in 16 bits", "moves 65537", 6);
        fault("no wrap-around in 32 bits", "moves 4294967297", 6);
        fault("no wrap-around in 64 bits", "moves 18446744073709551617", 6);
        fault("as many digits as can be", "moves " + "9".repeat(114), 6);
        fault("a one and as many noughts as can be", "moves 1" + "0".repeat(113), 6);
        right("noughts ahead", "moves 00099", 1);
        right("as many noughts ahead as can be", "moves " + "0".repeat(113) + "7", 1);
        fault("digits stay together: TOKENS are as long as can be", "pen wants 12", 10);
    }

    /** Another WORD than can stand there. */
    private static void otherWords() {
        for (String word : new String[] {"slips", "sli", "floor", "fixed", "wants", "move", "movess", "persons", "a", "penpen"}) {
            fault("no ITEM begins so", word, 0);
            fault("no ITEM begins so, behind another", "moves 1; " + word, 9);
        }
        for (String word : new String[] {"fixed", "slip", "pen", "wants", "moves", "floors", "flo"}) {
            fault("neither a NUMBER nor floor", "slip " + word, 5);
        }
        for (String word : new String[] {"floor", "slip", "pen", "wants", "moves", "fix", "fixedd"}) {
            fault("another WORD than fixed", "slip 0 " + word, 7);
            fault("another WORD than fixed", "slip floor " + word, 11);
        }
        for (String word : new String[] {"fixed", "slip", "pen", "floor", "moves", "want", "wantss"}) {
            fault("another WORD than wants", "loud " + word, 5);
            fault("a WORD, no NUMBER", "loud wants " + word, 11);
            fault("a WORD behind NUMBERS", "loud wants 1 2 " + word, 15);
            fault("a WORD behind the last NUMBER", "loud wants 1 2 3 4 5 " + word, 21);
        }
        for (String word : new String[] {"fixed", "floor", "slip", "wants", "moves"}) {
            fault("a WORD for MOVES", "moves " + word, 6);
            fault("a WORD behind MOVES", "moves 1 " + word, 8);
        }
        fault("great letters are none", "PEN", 0);
        fault("a WORD goes over no blank", "p en", 0);
        fault("fixed twice", "slip 0 fixed fixed", 13);
        fault("wants twice", "pen wants 1 wants 1", 12);
    }

    /** Each WORD with each of its letters another one, with one less and with one more. */
    private static void oneLetterOther() {
        String[] texts = {"slip 0", "slip floor", "slip 0 fixed", "moves 1", "pen wants 0", "person", "loud", "shy", "boss",
            "pen", "quiet"};
        int[] places = {0, 5, 7, 0, 4, 0, 0, 0, 0, 0, 0};
        for (int i = 0; i < texts.length; i++) {
            int end = places[i];
            while (end < texts[i].length() && texts[i].charAt(end) != ' ') {
                end++;
            }
            right("as it should be", texts[i], 1);
            for (int k = places[i]; k < end; k++) {
                char other = texts[i].charAt(k) == 'z' ? 'a' : (char) (texts[i].charAt(k) + 1);
                fault("another letter", texts[i].substring(0, k) + other + texts[i].substring(k + 1), places[i]);
                // What stands ahead of a great letter is another WORD already, or the letter itself begins no TOKEN.
                char great = (char) (texts[i].charAt(k) - 'a' + 'A');
                fault("a great letter", texts[i].substring(0, k) + great + texts[i].substring(k + 1), places[i]);
            }
            fault("without the last letter", texts[i].substring(0, end - 1) + texts[i].substring(end), places[i]);
            fault("without the first letter", texts[i].substring(0, places[i]) + texts[i].substring(places[i] + 1), places[i]);
            fault("with one letter more", texts[i].substring(0, end) + "s" + texts[i].substring(end), places[i]);
        }
    }

    /** 1 to 5 NUMBERS behind wants. */
    private static void sixthNumber() {
        right("one NUMBER", "pen wants 0", 1);
        right("five NUMBERS", "pen wants 0 0 0 0 0", 1);
        fault("a sixth NUMBER", "pen wants 0 0 0 0 0 0", 20);
        fault("a sixth NUMBER that may not be", "pen wants 0 0 0 0 0 9", 20);
        fault("a sixth and a seventh", "pen wants 0 0 0 0 0 0 0", 20);
        fault("the fifth may not be", "pen wants 0 0 0 0 9 0", 18);
        fault("no NUMBER", "pen wants;pen", 9);
        fault("no NUMBER at the end", "pen wants", 9);
        fault("a NUMBER without wants", "pen 0", 4);
        fault("a second GROUP for a slip", "slip 0 0", 7);
        fault("a NUMBER behind floor", "slip floor 0", 11);
        fault("a NUMBER behind fixed", "slip 0 fixed 0", 13);
        fault("a second NUMBER of MOVES", "moves 1 1", 8);
        fault("a NUMBER for an ITEM", "0", 0);
        right("five NUMBERS, then an ITEM", "pen wants 0 0 0 0 0;shy", 2);
    }

    /** slip for an 11th: its own place. */
    private static void eleventhSlip() {
        String ten = "slip 1;".repeat(10);
        right("ten slips", "slip 1;".repeat(9) + "slip 1", 10);
        fault("an 11th", ten + "slip 1", 70);
        fault("an 11th, its own place, not that of what lacks", ten + "slip", 70);
        fault("an 11th, its own place, not that of a NUMBER that may not be", ten + "slip 9", 70);
        fault("an 11th on THE FLOOR", ten + " slip floor", 71);
        right("ten slips, then others", ten + "pen;moves 1", 12);
        Run.of("29 the 10th with nine there", "slip(0) ".repeat(9), "tape:slip 5", "wall()=1 count(0)=10 slipOf(9,0)=5");
        Run.fault("29 an 11th with nine there", "slip(0) ".repeat(9), "slip 5;slip 4", 7);
        Run.fault("29 an 11th with ten there", Run.TEN_SLIPS, "moves 1; slip 5", 9);
        Run.of("29 others with ten there", Run.TEN_SLIPS, "tape:moves 1;pen", "wall()=2 count(0)=10 count(1)=1");
    }

    /** The name of a KIND for a 7th: its own place. */
    private static void seventhOne() {
        String six = "person;loud;shy;boss;pen;quiet";
        right("six PEOPLE", six, 6);
        for (String name : KINDS) {
            fault("a 7th", six + ";" + name, 31);
            fault("a 7th, its own place, not that of what lacks", six + ";" + name + " wants", 31);
        }
        right("six PEOPLE, then others", six + ";slip 1;moves 1", 8);
        Run.of("29 the 6th with five there", "person(0) ".repeat(5), "tape:pen wants 5", "wall()=1 of(5,0)=4 wants(5,0,0)=5");
        Run.fault("29 a 7th with five there", "person(0) ".repeat(5), "pen;shy", 4);
        Run.fault("29 a 7th with six there", Run.SIX_PEOPLE, "moves 1; pen", 9);
        Run.of("29 others with six there", Run.SIX_PEOPLE, "tape:moves 1;slip 2", "wall()=2 count(0)=1 count(1)=6");
    }

    /** SIGN ; where it can't stand, and which of two FAULTS is told. */
    private static void places() {
        fault("SIGN ; alone", ";", 0);
        fault("SIGN ; first", ";pen", 0);
        fault("SIGN ; twice", "pen;;pen", 4);
        fault("SIGN ; last", "pen;", 4);
        fault("SIGN ; for a GROUP", "slip ;", 5);
        fault("SIGN ; for MOVES", "moves;", 5);
        fault("no SIGN ; between", "pen shy", 4);
        fault("the first of two FAULTS", "slip 6;slip 7", 5);
        fault("the first of two FAULTS, a byte behind", "slip 6 ?", 5);
        fault("the first of two FAULTS, a byte ahead", "slip ? 6", 5);
        fault("the first byte of a long TOKEN", "moves 9;     personally", 13);
        fault("the last place that a tape has", "moves 1;".repeat(14) + "moves 1?", 119);
        fault("the last place but one", "moves 1;".repeat(14) + "moves 1;", 120);
    }
}
