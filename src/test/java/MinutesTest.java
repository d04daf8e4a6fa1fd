/** Promises 15 to 26: minutes, and what is best. */
public final class MinutesTest {
    public static void main(String[] args) {
        minutes();
        turns();
        fixes();
        lastMinute();
        on();
        way();
        done();
        moved();
        rule();
        send();
        kind();
        pair();
        fix();
        winner();
        largest();
        Due.end();
    }

    /** Slip 0 IN GROUP 3; one WANTS it in 0, another one in 5. */
    private static SlipWall quarrel(int kind, int other) {
        SlipWall x = new SlipWall();
        x.slip(3);
        x.person(kind);
        x.person(other);
        x.wants(1, 0, 5);
        return x;
    }

    /** Promise 15. */
    private static void minutes() {
        SlipWall x = quarrel(0, 0);
        Due.due("15 below", x.minutes(0), Due.BEYOND);
        Due.due("15 above", x.minutes(101), Due.BEYOND);
        Due.due("15 nothing went", x.now(0), 0);
        Due.due("15 one", x.minutes(1), 1);
        Due.due("15 hers", x.slipOf(0, 0), 0);
        Due.due("15 two", x.minutes(1), 2);
        Due.due("15 his", x.slipOf(0, 0), 5);
        Due.due("15 the rule stops it at three", x.minutes(100), 3);
        Due.due("15 hers at last", x.slipOf(0, 0), 0);
        Due.due("15 minute", x.now(0), 102);
        x.moves(9);
        x.out(1, 1);
        Due.due("15 she has it already", x.minutes(4), 3);
        x.out(1, 0);
        x.out(0, 1);
        Due.due("15 he alone", x.minutes(4), 4);
        Due.due("15 OUT loses his minutes", x.now(0), 110);
    }

    /** Promise 15, TURNS: each slip is PICKED anew. */
    private static void turns() {
        int[] due = {1, 2, 1, 1, 3, 1};
        for (int kind = 0; kind < 6; kind++) {
            SlipWall x = new SlipWall();
            x.person(kind);
            for (int i = 0; i < 5; i++) {
                x.slip(5);
            }
            Due.due("15 moves of kind " + kind, x.minutes(1), due[kind]);
            Due.due("15 the rest of the group, kind " + kind, x.group(5),
                new int[] {30, 7, 30, 30, 3, 30}[kind]);
        }
    }

    /** Promise 15, FIXES, and MOVED that is held to 999. */
    private static void fixes() {
        for (int kind = 0; kind < 6; kind++) {
            for (int moved = 0; moved < 8; moved++) {
                SlipWall x = new SlipWall();
                x.slip(5);
                x.stick(0, 1, moved);
                x.moves(99);
                x.person(kind);
                x.minutes(1);
                boolean fixed = kind == 3 || kind == 4 && moved >= 4;
                Due.due("15 fixed by " + kind + " after " + moved, x.slipOf(0, 2), fixed ? 1 : 0);
            }
        }
        SlipWall y = quarrel(3, 3);
        y.stick(0, 1, 998);
        Due.due("15 held", y.minutes(1), 999);
        y.stick(0, 2, 0);
        Due.due("15 held still", y.minutes(1), 999);
        Due.due("15 moved all the same", y.slipOf(0, 0), 5);
    }

    /** Promise 15, STATE: no run of 512 calls comes so far, but this class answers later calls as well. */
    private static void lastMinute() {
        SlipWall x = new SlipWall();
        for (int i = 0; i < 999; i++) {
            x.minutes(100);
        }
        Due.due("15 would be 100000", x.minutes(100), Due.STATE);
        Due.due("15 beyond comes first", x.minutes(101), Due.BEYOND);
        x.minutes(99);
        Due.due("15 the last minute", x.now(0), 99999);
        Due.due("15 none more", x.minutes(1), Due.STATE);
    }

    /** Promise 16. */
    private static void on() {
        SlipWall x = quarrel(0, 0);
        int[] in = {3, 0, 5, 0, 0};
        int[] moved = {0, 1, 2, 3, 3};
        for (int n = 0; n < 5; n++) {
            Due.due("16 in " + n, x.on(0, n, 0), in[n]);
            Due.due("16 moved " + n, x.on(0, n, 1), moved[n]);
            Due.due("16 fixed " + n, x.on(0, n, 2), 0);
        }
        Due.due("16 far", x.on(0, 200, 1), 3);
        x.turn(1, 3);
        Due.due("16 not yet fixed", x.on(0, 1, 2), 0);
        Due.due("16 fixed", x.on(0, 2, 2), 1);
        x.stick(0, 0, -1);
        Due.due("16 floor", x.on(0, 0, 0), -1);
        Due.due("16 nothing changes", x.now(0) + x.now(5), 0);
        Due.due("16 n above", x.on(0, 201, 0), Due.BEYOND);
        Due.due("16 n below", x.on(0, -1, 0), Due.BEYOND);
        Due.due("16 what above", x.on(0, 0, 3), Due.BEYOND);
        Due.due("16 what below", x.on(0, 0, -1), Due.BEYOND);
        Due.due("16 slip above", x.on(1, 0, 0), Due.BEYOND);
        Due.due("16 slip below", x.on(-1, 0, 0), Due.BEYOND);
    }

    /** Promise 17. */
    private static void way() {
        SlipWall x = quarrel(0, 0);
        int[] hers = {0, 1, 0, 1};
        for (int n = 0; n < 4; n++) {
            Due.due("17 hers " + n, x.way(0, n), hers[n]);
        }
        Due.due("17 his", x.way(1, 2), 1);
        Due.due("17 far", x.way(1, 200), 0);
        Due.due("17 n above", x.way(0, 201), Due.BEYOND);
        Due.due("17 n below", x.way(0, -1), Due.BEYOND);
        Due.due("17 person above", x.way(2, 0), Due.BEYOND);
        Due.due("17 person below", x.way(-1, 0), Due.BEYOND);
    }

    /** Promise 18. */
    private static void done() {
        Due.due("18 nobody is there", new SlipWall().done(), 0);
        SlipWall x = quarrel(0, 0);
        Due.due("18 after three moves", x.done(), 3);
        x.moves(0);
        Due.due("18 at once", x.done(), 0);
        x.moves(99);
        Due.due("18 after ninety-nine", x.done(), 99);
        x.stick(0, 1, 999);
        Due.due("18 above MOVES", x.done(), 0);

        SlipWall y = new SlipWall();
        y.slip(3);
        for (int i = 0; i < 6; i++) {
            y.person(0);
            y.wants(i, 0, 3);
        }
        Due.due("18 all are content", y.done(), 0);
        y.wants(5, 0, 1);
        y.moves(1);
        Due.due("18 the sixth moves it", y.done(), 6);

        // A quiet one that stands by in an even MINUTE: a whole round goes by, and DONE looks no farther.
        SlipWall z = new SlipWall();
        z.slip(3);
        z.stick(0, 1, 1);
        z.person(5);
        Due.due("18 done, though it moves later", z.done(), 0);
        Due.due("18 later", z.moved(0), 2);

        doneNever();
    }

    /** Ten slips that two move to and fro, one a MINUTE: MOVES say how long that takes. */
    private static void doneNever() {
        SlipWall x = new SlipWall();
        x.person(0);
        x.person(0);
        for (int i = 0; i < 10; i++) {
            x.slip(0);
            x.wants(0, i, 1);
            x.wants(1, i, 2);
        }
        x.moves(99);
        Due.due("18 none", x.done(), Due.NONE);
        x.moves(20);
        Due.due("18 the 200th moves the last", x.done(), 200);
        x.stick(0, 1, 1);
        Due.due("18 one move less", x.done(), 199);
        Due.due("18 nothing changes", x.now(0), 0);
    }

    /** Promise 19. */
    private static void moved() {
        SlipWall x = quarrel(0, 0);
        x.slip(1);
        x.slip(0);
        Due.due("19 at once", x.moved(0), 1);
        Due.due("19 never", x.moved(1), Due.NONE);
        // Both pick slip 0 until it has been moved three times, and he is next then.
        Due.due("19 later", x.moved(2), 4);
        x.stick(0, 1, 999);
        x.turn(0, 3);
        Due.due("19 held to 999", x.moved(0), 1);
        Due.due("19 slip above", x.moved(3), Due.BEYOND);
        Due.due("19 slip below", x.moved(-1), Due.BEYOND);
        Due.due("19 nothing changes", x.now(0), 0);

        SlipWall y = new SlipWall();
        y.person(0);
        y.person(0);
        for (int i = 0; i < 4; i++) {
            y.slip(0);
            y.wants(0, i, 1);
            y.wants(1, i, 2);
        }
        y.moves(99);
        Due.due("19 the 199th", y.moved(2), 199);
        y.stick(2, 1, 98);
        Due.due("19 the 200th", y.moved(3), 200);
        y.stick(2, 1, 97);
        Due.due("19 the 201st is too late", y.moved(3), Due.NONE);
        y.out(0, 1);
        Due.due("19 he alone", y.moved(2), 6);
        y.out(1, 1);
        Due.due("19 all are OUT", y.moved(2), Due.NONE);
    }

    /** Promise 20. */
    private static void rule() {
        SlipWall x = quarrel(0, 0);
        Due.due("20 hers with one move", x.rule(0, 100), 1);
        Due.due("20 his with two", x.rule(1, 100), 2);
        Due.due("20 too early for him", x.rule(1, 1), 0);
        Due.due("20 MOVES stay", x.now(1), 3);
        x.stick(0, 1, 18);
        Due.due("20 late, hers", x.rule(0, 100), 19);
        Due.due("20 late, his", x.rule(1, 100), 20);
        x.stick(0, 1, 19);
        Due.due("20 none does, the least", x.rule(1, 100), 0);
        x.stick(0, 0, 5);
        Due.due("20 it is there already", x.rule(1, 100), 0);
        Due.due("20 n below", x.rule(0, 0), Due.BEYOND);
        Due.due("20 n above", x.rule(0, 101), Due.BEYOND);
        Due.due("20 person above", x.rule(2, 1), Due.BEYOND);
        Due.due("20 person below", x.rule(-1, 1), Due.BEYOND);
    }

    /** Promise 21. */
    private static void send() {
        SlipWall x = quarrel(0, 0);
        Due.due("21 the only other", x.send(1, 10), 0);
        x.person(0);
        x.wants(2, 0, 4);
        // With 1 OUT she moves in MINUTES 0 and 3, 2 in MINUTE 2: hers. With 2 OUT: 0, 1, 3: hers as well.
        Due.due("21 of several the least", x.send(0, 10), 1);
        // After two MINUTES he has it, unless 0 or 2 being OUT changes it: it does not.
        Due.due("21 all the same", x.send(1, 2), 0);
        // After three, 2 has taken it from him, unless 2 is OUT.
        Due.due("21 the greater one", x.send(1, 3), 2);
        x.out(2, 1);
        Due.due("21 not one that is OUT", x.send(1, 3), 0);
        x.out(0, 1);
        Due.due("21 none", x.send(1, 3), Due.NONE);
        Due.due("21 one that is OUT may ask", x.send(0, 3), 1);
        Due.due("21 nobody went", x.of(1, 1), 0);
        Due.due("21 n below", x.send(0, 0), Due.BEYOND);
        Due.due("21 n above", x.send(0, 101), Due.BEYOND);
        Due.due("21 person above", x.send(3, 1), Due.BEYOND);
        Due.due("21 person below", x.send(-1, 1), Due.BEYOND);
    }

    /** Promise 22. */
    private static void kind() {
        SlipWall x = quarrel(0, 0);
        Due.due("22 hers as she is", x.kind(0, 100), 0);
        Due.due("22 the boss fixes it for him", x.kind(1, 100), 3);
        Due.due("22 KIND stays", x.of(1, 0), 0);
        SlipWall y = new SlipWall();
        y.person(2);
        for (int i = 0; i < 4; i++) {
            y.slip(5);
        }
        Due.due("22 the pen moves three", y.kind(0, 1), 4);
        y.stick(0, 0, 0);
        y.stick(1, 0, 1);
        Due.due("22 the loud one moves two", y.kind(0, 1), 1);
        Due.due("22 who waits has most", waiting().kind(0, 4), 5);
        Due.due("22 n below", y.kind(0, 0), Due.BEYOND);
        Due.due("22 n above", y.kind(0, 101), Due.BEYOND);
        Due.due("22 person above", y.kind(1, 1), Due.BEYOND);
        Due.due("22 person below", y.kind(-1, 1), Due.BEYOND);
    }

    /**
     * Who takes slip 0 at once drives the other one to take slip 1 away, for good or for a boss's next turn; the
     * shy one lets him, and never takes slip 2; the quiet one lets him and takes it in MINUTE 3.
     */
    private static SlipWall waiting() {
        SlipWall x = new SlipWall();
        int[] in = {3, 1, 4};
        int[] his = {0, 5, 4};
        for (int i = 0; i < 3; i++) {
            x.person(0);
        }
        for (int i = 0; i < 3; i++) {
            x.slip(in[i]);
            x.stick(i, 1, 1);
            x.wants(1, i, his[i]);
        }
        x.out(2, 1);
        x.moves(2);
        return x;
    }

    /** Promise 23. */
    private static void pair() {
        SlipWall x = new SlipWall();
        Due.due("23 nobody", x.pair(), Due.NONE);
        x.person(0);
        Due.due("23 one", x.pair(), Due.NONE);
        x.person(0);
        Due.due("23 two, no slip", x.pair(), 1);
        x.person(0);
        x.person(0);
        x.slip(0);
        x.slip(0);
        x.wants(1, 0, 5);
        Due.due("23 0 and 2", x.pair(), 2);
        x.wants(0, 1, 4);
        x.wants(2, 0, 3);
        x.wants(3, 0, 3);
        Due.due("23 2 and 3", x.pair(), 23);
        x.wants(3, 0, 4);
        Due.due("23 of several the least", x.pair(), 12);
    }

    /** Promise 24. */
    private static void fix() {
        SlipWall x = quarrel(0, 0);
        x.slip(1);
        x.slip(0);
        // Slip 0 goes to and fro three times, slip 2 once by whoever comes first.
        Due.due("24 the slip of the quarrel", x.fix(60), 0);
        Due.due("24 in one minute any is as good", x.fix(1), 0);
        x.stick(0, 2, 1);
        Due.due("24 not one that is FIXED", x.fix(60), 2);
        x.stick(2, 2, 1);
        Due.due("24 the last", x.fix(60), 1);
        x.stick(1, 2, 1);
        Due.due("24 none", x.fix(60), Due.NONE);
        Due.due("24 n below", x.fix(0), Due.BEYOND);
        Due.due("24 n above", x.fix(61), Due.BEYOND);
        Due.due("24 nothing changes", x.now(5), 0);
    }

    /** Promise 25. */
    private static void winner() {
        SlipWall x = new SlipWall();
        Due.due("25 nobody", x.winner(0), Due.NONE);
        Due.due("25 beyond comes first", x.winner(201), Due.BEYOND);
        SlipWall y = quarrel(0, 0);
        Due.due("25 of several the least", y.winner(0), 0);
        Due.due("25 hers", y.winner(1), 0);
        Due.due("25 his", y.winner(2), 1);
        Due.due("25 far", y.winner(200), 0);
        Due.due("25 above", y.winner(201), Due.BEYOND);
        Due.due("25 below", y.winner(-1), Due.BEYOND);
    }

    /** Promise 26. */
    private static void largest() {
        SlipWall x = new SlipWall();
        Due.due("26 no slips", x.largest(0), 0);
        x.slip(-1);
        x.slip(-1);
        Due.due("26 the floor is no group", x.largest(0), 0);
        x.slip(4);
        Due.due("26 one", x.largest(0), 4);
        x.slip(3);
        Due.due("26 of several the least", x.largest(200), 3);
        x.person(0);
        x.wants(0, 0, 4);
        Due.due("26 after a move", x.largest(1), 4);
        Due.due("26 above", x.largest(201), Due.BEYOND);
        Due.due("26 below", x.largest(-1), Due.BEYOND);
    }
}
