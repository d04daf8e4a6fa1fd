/** Promises 1 to 14: a new object, the wall, people. */
public final class WallAndPeopleTest {
    public static void main(String[] args) {
        newObject();
        moves();
        slip();
        slipOf();
        stick();
        group();
        now();
        person();
        of();
        picks();
        may();
        wants();
        out();
        turn();
        as();
        alike();
        Due.end();
    }

    /** Promise 1. */
    private static void newObject() {
        SlipWall x = new SlipWall();
        Due.due("1 slips", x.count(0), 0);
        Due.due("1 people", x.count(1), 0);
        Due.due("1 bytes", x.count(2), 0);
        Due.due("1 floor", x.count(3), 0);
        Due.due("1 minute", x.now(0), 0);
        Due.due("1 moves", x.now(1), 3);
        Due.due("1 turn", x.now(2), -1);
        Due.due("1 tear", x.tear(), 0);
        Due.due("1 status", x.status(-1), 0);
        for (int s = 0; s < 4; s++) {
            Due.due("1 sheet " + s, x.write(s, 0, 1), Due.MISSING);
        }
    }

    /** Promise 2. */
    private static void moves() {
        SlipWall x = new SlipWall();
        Due.due("2 first", x.moves(0), 3);
        Due.due("2 least", x.moves(99), 0);
        Due.due("2 above", x.moves(100), Due.BEYOND);
        Due.due("2 below", x.moves(-1), Due.BEYOND);
        Due.due("2 stays", x.now(1), 99);
    }

    /** Promise 3. */
    private static void slip() {
        SlipWall x = new SlipWall();
        Due.due("3 below", x.slip(-2), Due.BEYOND);
        Due.due("3 above", x.slip(6), Due.BEYOND);
        for (int i = 0; i < 10; i++) {
            Due.due("3 slip " + i, x.slip(i % 7 - 1), i);
            Due.due("3 in " + i, x.slipOf(i, 0), i % 7 - 1);
            Due.due("3 moved " + i, x.slipOf(i, 1), 0);
            Due.due("3 fixed " + i, x.slipOf(i, 2), 0);
        }
        Due.due("3 full", x.slip(0), Due.FULL);
        Due.due("3 beyond comes first", x.slip(6), Due.BEYOND);
        Due.due("3 ten stay", x.count(0), 10);
    }

    /** Promise 4. */
    private static void slipOf() {
        SlipWall x = new SlipWall();
        Due.due("4 none there", x.slipOf(0, 0), Due.BEYOND);
        x.slip(2);
        Due.due("4 nobody has his way", x.slipOf(0, 3), 0);
        Due.due("4 nobody wants", x.slipOf(0, 4), -1);
        x.person(0);
        x.person(1);
        x.person(2);
        x.wants(0, 0, 5);
        x.wants(1, 0, 2);
        x.wants(2, 0, 2);
        Due.due("4 way", x.slipOf(0, 3), 6);
        Due.due("4 most", x.slipOf(0, 4), 2);
        x.wants(2, 0, 5);
        Due.due("4 most is greater", x.slipOf(0, 4), 5);
        x.person(3);
        x.wants(3, 0, 2);
        Due.due("4 the least of several", x.slipOf(0, 4), 2);
        x.out(1, 1);
        Due.due("4 OUT counts too", x.slipOf(0, 3), 10);
        x.stick(0, 0, -1);
        Due.due("4 floor", x.slipOf(0, 0), -1);
        Due.due("4 floor pleases nobody", x.slipOf(0, 3), 0);
        Due.due("4 what above", x.slipOf(0, 5), Due.BEYOND);
        Due.due("4 what below", x.slipOf(0, -1), Due.BEYOND);
        Due.due("4 slip above", x.slipOf(1, 0), Due.BEYOND);
        Due.due("4 slip below", x.slipOf(-1, 0), Due.BEYOND);
    }

    /** Promise 5. */
    private static void stick() {
        SlipWall x = new SlipWall();
        x.slip(2);
        int[] least = {-1, 0, 0};
        int[] most = {5, 999, 1};
        int[] first = {2, 0, 0};
        for (int what = 0; what < 3; what++) {
            Due.due("5 most " + what, x.stick(0, what, most[what]), first[what]);
            Due.due("5 above " + what, x.stick(0, what, most[what] + 1), Due.BEYOND);
            Due.due("5 stays " + what, x.slipOf(0, what), most[what]);
            Due.due("5 least " + what, x.stick(0, what, least[what]), most[what]);
            Due.due("5 below " + what, x.stick(0, what, least[what] - 1), Due.BEYOND);
            Due.due("5 stays " + what, x.slipOf(0, what), least[what]);
        }
        Due.due("5 what above", x.stick(0, 3, 0), Due.BEYOND);
        Due.due("5 what below", x.stick(0, -1, 0), Due.BEYOND);
        Due.due("5 slip above", x.stick(1, 0, 0), Due.BEYOND);
        Due.due("5 slip below", x.stick(-1, 0, 0), Due.BEYOND);
    }

    /** Promise 6. */
    private static void group() {
        SlipWall x = new SlipWall();
        Due.due("6 empty floor", x.group(-1), 0);
        x.slip(0);
        x.slip(-1);
        x.slip(5);
        x.slip(0);
        x.slip(-1);
        Due.due("6 group 0", x.group(0), 9);
        Due.due("6 group 1", x.group(1), 0);
        Due.due("6 group 5", x.group(5), 4);
        Due.due("6 floor", x.group(-1), 18);
        Due.due("6 above", x.group(6), Due.BEYOND);
        Due.due("6 below", x.group(-2), Due.BEYOND);
    }

    /** Promise 7. */
    private static void now() {
        SlipWall x = new SlipWall();
        x.slip(-1);
        Due.due("7 the floor is no group", x.now(3), 0);
        x.slip(5);
        x.slip(1);
        x.stick(0, 1, 999);
        x.stick(2, 1, 7);
        x.stick(1, 2, 1);
        x.stick(2, 2, 1);
        Due.due("7 groups", x.now(3), 34);
        Due.due("7 fixed", x.now(4), 6);
        Due.due("7 moved", x.now(5), 1006);
        x.minutes(7);
        Due.due("7 minutes go with nobody there", x.now(0), 7);
        x.person(0);
        x.person(0);
        x.person(0);
        Due.due("7 turn", x.now(2), 1);
        x.out(1, 1);
        Due.due("7 turn of one that is OUT", x.now(2), 1);
        x.moves(12);
        Due.due("7 moves", x.now(1), 12);
        Due.due("7 above", x.now(6), Due.BEYOND);
        Due.due("7 below", x.now(-1), Due.BEYOND);
    }

    /** Promise 8. */
    private static void person() {
        SlipWall x = new SlipWall();
        Due.due("8 above", x.person(6), Due.BEYOND);
        Due.due("8 below", x.person(-1), Due.BEYOND);
        for (int i = 0; i < 6; i++) {
            Due.due("8 person " + i, x.person(5 - i), i);
            Due.due("8 kind " + i, x.of(i, 0), 5 - i);
            Due.due("8 out " + i, x.of(i, 1), 0);
            for (int slip = 0; slip < 10; slip++) {
                Due.due("8 wants " + slip, x.wants(i, slip, 0), slip % 6);
            }
        }
        Due.due("8 full", x.person(0), Due.FULL);
        Due.due("8 beyond comes first", x.person(6), Due.BEYOND);
    }

    /** Promise 9. */
    private static void of() {
        SlipWall x = new SlipWall();
        int[] turns = {1, 2, 1, 1, 3, 1};
        for (int kind = 0; kind < 6; kind++) {
            x.person(kind);
            Due.due("9 no slip to pick " + kind, x.of(kind, 3), -1);
            Due.due("9 turns " + kind, x.of(kind, 4), turns[kind]);
        }
        x.slip(0);
        x.slip(0);
        x.slip(2);
        x.slip(-1);
        Due.due("9 way", x.of(0, 2), 5);
        x.out(4, 1);
        Due.due("9 out", x.of(4, 1), 1);
        Due.due("9 picks though OUT", x.of(4, 3), 3);
        Due.due("9 what above", x.of(0, 5), Due.BEYOND);
        Due.due("9 what below", x.of(0, -1), Due.BEYOND);
        Due.due("9 person above", x.of(6, 0), Due.BEYOND);
        Due.due("9 person below", x.of(-1, 0), Due.BEYOND);
    }

    /** Promise 9, PICKS: of slips 1, 2, 3, 4 that are in the wrong GROUP. */
    private static void picks() {
        SlipWall x = new SlipWall();
        for (int i = 0; i < 6; i++) {
            x.slip(0);
            x.person(i);
        }
        x.stick(5, 0, 5);
        x.moves(9);
        int[] due = {1, 4, 1, 1, 4, 1};
        for (int kind = 0; kind < 6; kind++) {
            Due.due("9 picks, kind " + kind, x.of(kind, 3), due[kind]);
        }
        x.stick(0, 1, 8);
        x.stick(2, 1, 4);
        x.stick(3, 1, 4);
        Due.due("9 the boss picks the least of those moved most", x.of(3, 3), 2);
        x.stick(3, 1, 5);
        Due.due("9 the boss picks that moved most", x.of(3, 3), 3);
        x.stick(3, 2, 1);
        Due.due("9 none that is fixed", x.of(3, 3), 2);
        x.stick(4, 2, 1);
        Due.due("9 the pen takes the greatest free one", x.of(4, 3), 2);
        x.stick(1, 2, 1);
        Due.due("9 the shy one sees none", x.of(2, 3), -1);
    }

    /** Promise 9, MAY: by how often a slip was MOVED, by MOVES, by an even and an odd MINUTE. */
    private static void may() {
        for (int minute = 0; minute < 2; minute++) {
            SlipWall x = new SlipWall();
            if (minute == 1) {
                x.minutes(1);
            }
            for (int kind = 0; kind < 6; kind++) {
                x.person(kind);
            }
            x.slip(5);
            for (int moves = 0; moves < 5; moves++) {
                for (int moved = 0; moved < 6; moved++) {
                    x.moves(moves);
                    x.stick(0, 1, moved);
                    String at = "9 may, minute " + minute + ", moves " + moves + ", moved " + moved + ", kind ";
                    boolean below = moved < moves;
                    boolean[] may = {below, below || moved < 2, below && moved == 0, true, below || moved < 2,
                        below && (moved == 0 || minute == 1)};
                    for (int kind = 0; kind < 6; kind++) {
                        Due.due(at + kind, x.of(kind, 3), may[kind] ? 0 : -1);
                    }
                }
            }
        }
    }

    /** Promise 10. */
    private static void wants() {
        SlipWall x = new SlipWall();
        Due.due("10 nobody", x.wants(0, 0, 0), Due.BEYOND);
        x.person(0);
        x.person(0);
        Due.due("10 a slip that is not there", x.wants(1, 9, 5), 3);
        Due.due("10 was", x.wants(1, 9, 0), 5);
        Due.due("10 the other one's stays", x.wants(0, 9, 1), 3);
        Due.due("10 group above", x.wants(0, 0, 6), Due.BEYOND);
        Due.due("10 the floor is wanted by nobody", x.wants(0, 0, -1), Due.BEYOND);
        Due.due("10 slip above", x.wants(0, 10, 0), Due.BEYOND);
        Due.due("10 slip below", x.wants(0, -1, 0), Due.BEYOND);
        Due.due("10 person above", x.wants(2, 0, 0), Due.BEYOND);
        Due.due("10 person below", x.wants(-1, 0, 0), Due.BEYOND);
        Due.due("10 stays", x.wants(0, 0, 0), 0);
    }

    /** Promise 11. */
    private static void out() {
        SlipWall x = new SlipWall();
        x.person(0);
        Due.due("11 was 0", x.out(0, 1), 0);
        Due.due("11 above", x.out(0, 2), Due.BEYOND);
        Due.due("11 below", x.out(0, -1), Due.BEYOND);
        Due.due("11 was 1", x.out(0, 0), 1);
        Due.due("11 person above", x.out(1, 0), Due.BEYOND);
        Due.due("11 person below", x.out(-1, 0), Due.BEYOND);
    }

    /** Promise 12. */
    private static void turn() {
        SlipWall x = new SlipWall();
        x.person(4);
        x.wants(0, 3, 5);
        x.out(0, 1);
        Due.due("12 was", x.turn(0, 2), 4);
        Due.due("12 is", x.of(0, 0), 2);
        Due.due("12 wants the same", x.wants(0, 3, 5), 5);
        Due.due("12 out as before", x.of(0, 1), 1);
        Due.due("12 above", x.turn(0, 6), Due.BEYOND);
        Due.due("12 below", x.turn(0, -1), Due.BEYOND);
        Due.due("12 person above", x.turn(1, 0), Due.BEYOND);
        Due.due("12 stays", x.of(0, 0), 2);
    }

    /** Promise 13. */
    private static void as() {
        SlipWall x = new SlipWall();
        int[] above = {-1, 0, 0, 0, 1, 2};
        for (int kind = 0; kind < 6; kind++) {
            x.person(kind);
        }
        x.slip(0);
        x.slip(1);
        x.slip(0);
        for (int own = 0; own < 6; own++) {
            for (int kind = 0; kind < 6; kind++) {
                boolean is = kind == own || kind == above[own] || kind == 0;
                Due.due("13 " + own + " as " + kind, x.as(own, kind), is ? 2 : Due.KIND);
            }
        }
        Due.due("13 kind above", x.as(0, 6), Due.BEYOND);
        Due.due("13 kind below", x.as(0, -1), Due.BEYOND);
        Due.due("13 person above", x.as(6, 0), Due.BEYOND);
        Due.due("13 person below", x.as(-1, 0), Due.BEYOND);
    }

    /** Promise 14. */
    private static void alike() {
        SlipWall x = new SlipWall();
        x.person(0);
        x.person(1);
        Due.due("14 no slip there", x.alike(0, 1), 0);
        x.slip(4);
        x.slip(4);
        Due.due("14 the same", x.alike(0, 1), 2);
        x.wants(1, 5, 1);
        Due.due("14 one that is not there counts not", x.alike(0, 1), 2);
        x.wants(1, 1, 4);
        Due.due("14 one less", x.alike(1, 0), 1);
        Due.due("14 one and the same", x.alike(1, 1), Due.BEYOND);
        Due.due("14 above", x.alike(0, 2), Due.BEYOND);
        Due.due("14 below", x.alike(-1, 0), Due.BEYOND);
    }
}
