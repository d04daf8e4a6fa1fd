/** The edges of promises 1 to 7: a new object, the wall. */
public final class WallEdgesTest {
    public static void main(String[] args) {
        newObject();
        objectsAreApart();
        moves();
        slip();
        slipOf();
        stick();
        group();
        now();
        Due.end();
    }

    /** Promise 1. */
    private static void newObject() {
        Run.of("1 no SLIPS", "count(0)=0 count(3)=0 now(3)=0 now(4)=0 now(5)=0 slipOf(0,0)=BEYOND");
        Run.of("1 no slip in any GROUP", "group(-1)=0 group(0)=0 group(1)=0 group(2)=0 group(3)=0 group(4)=0 group(5)=0");
        Run.of("1 nobody there", "count(1)=0 now(2)=-1 of(0,0)=BEYOND");
        Run.of("1 THE TAPE is empty", "count(2)=0 wipe()=0");
        Run.of("1 no image is kept", "tear()=0 undo()=NONE");
        Run.of("1 MINUTE is 0 at first", "now(0)=0");
        Run.of("1 MOVES are 3 at first", "now(1)=3");
        Run.of("1 SHEETS are MISSING at first",
            "write(0,0,0)=MISSING write(1,0,0)=MISSING write(2,0,0)=MISSING write(3,0,0)=MISSING");
        Run.of("1 no finding at first", "status(-1)=0 status(0)=0 status(1)=0 status(2)=0 status(3)=0 status(4)=0"
            + " status(5)=0 status(6)=0");
    }

    private static void objectsAreApart() {
        SlipWall used = new SlipWall();
        used.slip(3);
        used.person(4);
        used.minutes(9);
        used.moves(50);
        used.image();
        used.feed(0, 4);
        used.sheet(0, 8, 9);
        used.slip(99);
        newObject();
        Due.due("1 the used one keeps its slip", used.count(0), 1);
        Due.due("1 the used one keeps its finding", used.status(-1), 1);
    }

    /** Promise 2: MOVES are 0 to 99. */
    private static void moves() {
        Run.of("2 the least", "moves(0)=3 now(1)=0 moves(0)=0");
        Run.each("2 below the least", "", "BEYOND", "moves(-1)", "moves(MIN)");
        Run.of("2 the most", "moves(99)=3 now(1)=99 moves(99)=99");
        Run.each("2 above the most", "", "BEYOND", "moves(100)", "moves(256)", "moves(MAX)");
        Run.of("2 a refused call leaves MOVES", Run.SOME + "moves(100)=BEYOND moves(-1)=BEYOND now(1)=7");
        Run.of("2 with MOVES 0 a PERSON may touch none", "slip(3) person(0) moves(0) of(0,3)=-1 moves(1) of(0,3)=0");
        Run.of("2 with MOVES 99 one MOVED 98 times may be moved once more",
            "slip(3) person(0) moves(99) stick(0,1,98) of(0,3)=0 minutes(1)=99 slipOf(0,0)=0");
        Run.of("2 with MOVES 99 one MOVED 99 times may not be moved",
            "slip(3) person(0) moves(99) stick(0,1,99) of(0,3)=-1 minutes(1)=99 slipOf(0,0)=3");
    }

    /** Promise 3: a GROUP (0 to 5) or THE FLOOR (-1); at most 10. */
    private static void slip() {
        Run.of("3 on THE FLOOR", "slip(-1)=0 slipOf(0,0)=-1 count(3)=1");
        Run.of("3 the least GROUP", "slip(0)=0 slipOf(0,0)=0 count(3)=0");
        Run.of("3 the greatest GROUP", "slip(5)=0 slipOf(0,0)=5");
        Run.each("3 below THE FLOOR", "", "BEYOND", "slip(-2)", "slip(MIN)");
        Run.each("3 above the GROUPS", "", "BEYOND", "slip(6)", "slip(MAX)");
        Run.of("3 a refused one gets no number", "slip(6)=BEYOND slip(-2)=BEYOND slip(2)=0 slip(6)=BEYOND slip(2)=1");
        Run.of("3 the tenth", "slip(0) ".repeat(9) + "slip(5)=9 count(0)=10 slipOf(9,0)=5");
        Run.of("3 the eleventh", Run.TEN_SLIPS + "slip(0)=FULL count(0)=10");
        Run.of("3 the eleventh, on THE FLOOR", Run.TEN_SLIPS + "slip(-1)=FULL count(3)=0");
        Run.of("3 BEYOND is asked before FULL", Run.TEN_SLIPS + "slip(6)=BEYOND slip(-2)=BEYOND slip(5)=FULL");
        Run.of("3 MOVED and FIXED are 0 at first", "slip(4) slipOf(0,1)=0 slipOf(0,2)=0");
        Run.of("3 a slip comes in late as a new one", "person(0) slip(3) minutes(2) slip(3)=1 slipOf(1,1)=0 slipOf(0,1)=1");
    }

    /** Promise 4. */
    private static void slipOf() {
        Run.each("4 no slip there", "", "BEYOND", "slipOf(0,0)", "slipOf(-1,0)", "slipOf(0,4)");
        Run.of("4 the only slip", "slip(3) slipOf(0,0)=3");
        Run.each("4 no such slip", "slip(3)", "BEYOND", "slipOf(-1,0)", "slipOf(1,0)", "slipOf(MIN,0)", "slipOf(MAX,0)",
            "slipOf(32,0)", "slipOf(1,4)");
        Run.of("4 the tenth slip", Run.TEN_SLIPS + "slipOf(9,0)=0 slipOf(10,0)=BEYOND");
        Run.each("4 another what", "slip(3)", "BEYOND", "slipOf(0,-1)", "slipOf(0,5)", "slipOf(0,MIN)", "slipOf(0,MAX)");
        Run.of("4 the last what", "slip(3) person(0) slipOf(0,4)=0");
        Run.of("4 nobody HAS ITS WAY where nobody is", "slip(3) slipOf(0,3)=0");
        Run.of("4 nobody HAS ITS WAY of a slip on THE FLOOR", "slip(-1) " + Run.SIX_PEOPLE + "slipOf(0,3)=0");
        Run.of("4 all six HAVE THEIR WAY", "slip(0) " + Run.SIX_PEOPLE + "slipOf(0,3)=63");
        Run.of("4 the sixth alone HAS ITS WAY", "slip(1) " + Run.SIX_PEOPLE + "wants(5,0,1) slipOf(0,3)=32");
        Run.of("4 no GROUP where nobody is", "slip(3) slipOf(0,4)=-1");
        Run.of("4 one is enough", "slip(3) person(0) wants(0,0,5) slipOf(0,4)=5");
        Run.of("4 of several GROUPS the least", "slip(3) person(0) person(0) wants(0,0,5) wants(1,0,4) slipOf(0,4)=4");
        Run.of("4 of six GROUPS the least", "slip(3) " + Run.SIX_PEOPLE
            + "wants(0,0,5) wants(1,0,4) wants(2,0,3) wants(3,0,2) wants(4,0,1) wants(5,0,0) slipOf(0,4)=0");
        Run.of("4 two against each one alone", "slip(3) " + Run.SIX_PEOPLE
            + "wants(0,0,5) wants(1,0,4) wants(2,0,3) wants(3,0,2) wants(4,0,1) wants(5,0,5) slipOf(0,4)=5");
        Run.of("4 MOVED at its most, FIXED", "slip(3) stick(0,1,999) stick(0,2,1) slipOf(0,1)=999 slipOf(0,2)=1");
    }

    /** Promise 5: IN -1 to 5, MOVED 0 to 999, FIXED 0 or 1. */
    private static void stick() {
        Run.each("5 no slip there", "", "BEYOND", "stick(0,0,0)", "stick(-1,0,0)");
        Run.each("5 no such slip", "slip(3)", "BEYOND", "stick(-1,0,0)", "stick(1,0,0)", "stick(MIN,1,0)", "stick(MAX,2,0)");
        Run.of("5 the tenth slip", Run.TEN_SLIPS + "stick(9,0,5)=0 stick(10,0,5)=BEYOND slipOf(9,0)=5");
        Run.each("5 another what", "slip(3)", "BEYOND", "stick(0,-1,0)", "stick(0,3,0)", "stick(0,4,0)", "stick(0,MIN,0)",
            "stick(0,MAX,0)");
        Run.of("5 IN: THE FLOOR", "slip(3) stick(0,0,-1)=3 slipOf(0,0)=-1 stick(0,0,0)=-1");
        Run.of("5 IN: the greatest GROUP", "slip(3) stick(0,0,5)=3 slipOf(0,0)=5");
        Run.each("5 IN: below", "slip(3)", "BEYOND", "stick(0,0,-2)", "stick(0,0,MIN)");
        Run.each("5 IN: above", "slip(3)", "BEYOND", "stick(0,0,6)", "stick(0,0,MAX)");
        Run.of("5 MOVED: the least", "slip(3) stick(0,1,0)=0 slipOf(0,1)=0");
        Run.each("5 MOVED: below", "slip(3)", "BEYOND", "stick(0,1,-1)", "stick(0,1,MIN)");
        Run.of("5 MOVED: the most", "slip(3) stick(0,1,999)=0 slipOf(0,1)=999 stick(0,1,0)=999");
        Run.each("5 MOVED: above", "slip(3)", "BEYOND", "stick(0,1,1000)", "stick(0,1,MAX)");
        Run.of("5 FIXED: 1, and 0", "slip(3) stick(0,2,1)=0 slipOf(0,2)=1 stick(0,2,0)=1 slipOf(0,2)=0");
        Run.each("5 FIXED: below", "slip(3)", "BEYOND", "stick(0,2,-1)", "stick(0,2,MIN)");
        Run.each("5 FIXED: above", "slip(3)", "BEYOND", "stick(0,2,2)", "stick(0,2,MAX)");
        Run.of("5 a refused call leaves the slip", Run.SOME + "stick(1,0,6)=BEYOND stick(1,1,1000)=BEYOND stick(1,2,2)=BEYOND"
            + " stick(1,3,0)=BEYOND slipOf(1,0)=-1 slipOf(1,1)=7 slipOf(1,2)=1");
        Run.of("5 sticking is no move", "slip(3) stick(0,0,4) slipOf(0,1)=0");
        Run.of("5 a FIXED slip may be stuck elsewhere", "slip(3) stick(0,2,1) stick(0,0,4)=3 slipOf(0,0)=4 slipOf(0,2)=1");
    }

    /** Promise 6: -1 to 5. */
    private static void group() {
        Run.of("6 THE FLOOR", "slip(-1) slip(0) slip(-1) group(-1)=5");
        Run.of("6 the least GROUP", "slip(-1) slip(0) group(0)=2");
        Run.of("6 the greatest GROUP", "slip(4) slip(5) group(5)=2");
        Run.of("6 an empty GROUP", "slip(4) group(5)=0");
        Run.of("6 all ten", Run.TEN_SLIPS + "group(0)=1023 group(-1)=0 group(1)=0");
        Run.of("6 the tenth alone", "slip(0) ".repeat(9) + "slip(-1) group(-1)=512 group(0)=511");
        Run.each("6 below THE FLOOR", "slip(-1)", "BEYOND", "group(-2)", "group(MIN)");
        Run.each("6 above the GROUPS", "slip(5)", "BEYOND", "group(6)", "group(MAX)");
    }

    /** Promise 7: what 0 to 5. */
    private static void now() {
        Run.each("7 another what", Run.SOME, "BEYOND", "now(-1)", "now(6)", "now(MIN)", "now(MAX)");
        Run.of("7 the first what", "minutes(1) now(0)=1");
        Run.of("7 nobody's turn", "slip(0) minutes(5) now(2)=-1");
        Run.of("7 one alone always has the turn", "person(0) now(2)=0 minutes(1) now(2)=0 minutes(100) now(2)=0");
        Run.of("7 the turn comes round", Run.SIX_PEOPLE + "now(2)=0 minutes(5) now(2)=5 minutes(1) now(2)=0");
        Run.of("7 the turn is MINUTE's, also with one more", "person(0) person(0) minutes(5) now(2)=1 person(0) now(2)=2");
        Run.of("7 it is the turn of one that is OUT", "person(0) out(0,1) now(2)=0");
        Run.of("7 all GROUPS", "slip(0) slip(1) slip(2) slip(3) slip(4) slip(5) now(3)=63");
        Run.of("7 THE FLOOR is no GROUP", "slip(-1) slip(-1) now(3)=0");
        Run.of("7 the greatest GROUP alone", "slip(5) slip(5) now(3)=32");
        Run.of("7 none is FIXED", Run.TEN_SLIPS + "now(4)=0");
        Run.of("7 all are FIXED", Run.TEN_SLIPS + everySlip("stick(%,2,1) ") + "now(4)=1023");
        Run.of("7 none was MOVED", Run.TEN_SLIPS + "now(5)=0");
        Run.of("7 all were MOVED most", Run.TEN_SLIPS + everySlip("stick(%,1,999) ") + "now(5)=9990");
    }

    private static String everySlip(String call) {
        StringBuilder calls = new StringBuilder();
        for (int slip = 0; slip < 10; slip++) {
            calls.append(call.replace("%", String.valueOf(slip)));
        }
        return calls.toString();
    }
}
