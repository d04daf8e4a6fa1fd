/** The edges of promises 8 to 14: people, and what section 1 says of their KINDS. */
public final class PeopleEdgesTest {
    public static void main(String[] args) {
        person();
        of();
        may();
        picks();
        wants();
        out();
        turn();
        as();
        alike();
        Due.end();
    }

    /** Promise 8: KINDS 0 to 5; at most 6 PEOPLE. */
    private static void person() {
        Run.of("8 the least KIND", "person(0)=0 of(0,0)=0");
        Run.of("8 the greatest KIND", "person(5)=0 of(0,0)=5");
        Run.each("8 below the KINDS", "", "BEYOND", "person(-1)", "person(MIN)");
        Run.each("8 above the KINDS", "", "BEYOND", "person(6)", "person(MAX)");
        Run.of("8 a refused one gets no number", "person(6)=BEYOND person(1)=0 person(-1)=BEYOND person(1)=1 count(1)=2");
        Run.of("8 the sixth", "person(0) ".repeat(5) + "person(5)=5 of(5,0)=5 count(1)=6");
        Run.of("8 the seventh", Run.SIX_PEOPLE + "person(0)=FULL count(1)=6");
        Run.of("8 BEYOND is asked before FULL", Run.SIX_PEOPLE + "person(6)=BEYOND person(-1)=BEYOND person(5)=FULL");
        Run.of("8 OUT is 0 at first", "person(3) of(0,1)=0");
        Run.of("8 WANTS at first: the rest of the slip's number by 6", "person(3) wants(0,0,0)=0 wants(0,1,0)=1"
            + " wants(0,2,0)=2 wants(0,3,0)=3 wants(0,4,0)=4 wants(0,5,0)=5 wants(0,6,0)=0 wants(0,7,0)=1"
            + " wants(0,8,0)=2 wants(0,9,0)=3");
        Run.of("8 WANTS of the sixth at first", Run.SIX_PEOPLE + "wants(5,0,0)=0 wants(5,5,0)=5 wants(5,6,0)=0 wants(5,9,0)=3");
    }

    /** Promise 9: what 0 to 4. */
    private static void of() {
        Run.each("9 nobody there", "slip(0)", "BEYOND", "of(0,0)", "of(-1,0)", "of(0,3)");
        Run.each("9 no such one", "person(1)", "BEYOND", "of(-1,0)", "of(1,0)", "of(MIN,0)", "of(MAX,0)", "of(1,4)");
        Run.of("9 the sixth", Run.SIX_PEOPLE + "of(5,0)=0 of(6,0)=BEYOND");
        Run.each("9 another what", Run.SOME, "BEYOND", "of(0,-1)", "of(0,5)", "of(0,MIN)", "of(0,MAX)");
        Run.of("9 the first and the last what", "person(4) of(0,0)=4 of(0,4)=3");
        Run.of("9 HAS ITS WAY of none where no slip is", "person(0) of(0,2)=0");
        Run.of("9 HAS ITS WAY of all ten", "person(0) slip(0) slip(1) slip(2) slip(3) slip(4) slip(5) slip(0) slip(1) slip(2)"
            + " slip(3) of(0,2)=1023");
        Run.of("9 HAS ITS WAY of none on THE FLOOR", "person(0) slip(-1) of(0,2)=0");
        Run.of("9 PICKS none where no slip is", "person(3) of(0,3)=-1");
        Run.of("9 PICKS none where all are as it WANTS", "person(3) slip(0) slip(1) of(0,3)=-1");
        Run.of("9 PICKS none where all are FIXED", "person(3) slip(3) stick(0,2,1) of(0,3)=-1");
        Run.of("9 PICKS one from THE FLOOR", "person(3) slip(-1) of(0,3)=0");
        Run.of("9 PICKS though it is OUT", "person(0) slip(3) out(0,1) of(0,3)=0");
        Run.of("9 PICKS though it is not its turn", "person(0) person(0) slip(3) of(1,3)=0");
        Run.of("9 TURNS", "person(0) person(1) person(2) person(3) person(4) person(5)"
            + " of(0,4)=1 of(1,4)=2 of(2,4)=1 of(3,4)=1 of(4,4)=3 of(5,4)=1");
    }

    /** Promise 9, MAY: the last MOVED with which each KIND may touch a slip, and the first with which it may not. */
    private static void may() {
        Run.of("9 PERSON: below MOVES", "person(0) slip(3) stick(0,1,2) of(0,3)=0 stick(0,1,3) of(0,3)=-1");
        Run.of("9 PERSON: none with MOVES 0", "person(0) slip(3) moves(0) of(0,3)=-1");
        Run.of("9 LOUD: below 2, whatever MOVES are", "person(1) slip(3) moves(0) stick(0,1,1) of(0,3)=0 stick(0,1,2) of(0,3)=-1");
        Run.of("9 LOUD: below MOVES", "person(1) slip(3) moves(3) stick(0,1,2) of(0,3)=0 stick(0,1,3) of(0,3)=-1");
        Run.of("9 SHY: 0 alone", "person(2) slip(3) of(0,3)=0 stick(0,1,1) of(0,3)=-1");
        Run.of("9 SHY: 0 must be below MOVES", "person(2) slip(3) moves(1) of(0,3)=0 moves(0) of(0,3)=-1");
        Run.of("9 BOSS: always", "person(3) slip(3) moves(0) of(0,3)=0 stick(0,1,999) of(0,3)=0");
        Run.of("9 BOSS: none that is FIXED", "person(3) slip(3) stick(0,2,1) of(0,3)=-1 stick(0,2,0) of(0,3)=0");
        Run.of("9 PEN: below 2, whatever MOVES are", "person(4) slip(3) moves(0) stick(0,1,1) of(0,3)=0 stick(0,1,2) of(0,3)=-1");
        Run.of("9 PEN: below MOVES", "person(4) slip(3) moves(3) stick(0,1,2) of(0,3)=0 stick(0,1,3) of(0,3)=-1");
        Run.of("9 QUIET: 0 alone in an even MINUTE", "person(5) slip(3) of(0,3)=0 stick(0,1,1) of(0,3)=-1");
        Run.of("9 QUIET: below MOVES in an odd MINUTE",
            "minutes(1) person(5) slip(3) stick(0,1,2) of(0,3)=0 stick(0,1,3) of(0,3)=-1");
        Run.of("9 QUIET: none with MOVES 0", "person(5) slip(3) moves(0) of(0,3)=-1 minutes(1) of(0,3)=-1");
        Run.of("9 QUIET: an odd MINUTE, then an even one",
            "person(5) out(0,1) slip(3) stick(0,1,1) minutes(99) of(0,3)=0 minutes(1) of(0,3)=-1");
    }

    /** Promise 9, PICKS: which of several. */
    private static void picks() {
        String three = "person(%) slip(5) slip(5) slip(5) moves(9) ";
        Run.of("9 PERSON: the least", three.replace('%', '0') + "of(0,3)=0 stick(0,2,1) of(0,3)=1");
        Run.of("9 LOUD: the greatest", three.replace('%', '1') + "of(0,3)=2 stick(2,2,1) of(0,3)=1");
        Run.of("9 SHY: the least", three.replace('%', '2') + "of(0,3)=0 stick(0,1,1) of(0,3)=1");
        Run.of("9 BOSS: of several the least", three.replace('%', '3') + "of(0,3)=0");
        Run.of("9 BOSS: that MOVED most", three.replace('%', '3') + "stick(1,1,1) of(0,3)=1 stick(2,1,2) of(0,3)=2");
        Run.of("9 BOSS: of several MOVED most the least", three.replace('%', '3') + "stick(1,1,999) stick(2,1,999) of(0,3)=1");
        Run.of("9 BOSS: not one MOVED most that is as it WANTS",
            three.replace('%', '3') + "stick(2,1,8) stick(2,0,2) stick(1,1,1) of(0,3)=1");
        Run.of("9 PEN: the greatest", three.replace('%', '4') + "of(0,3)=2");
        Run.of("9 QUIET: the least", three.replace('%', '5') + "of(0,3)=0");
        Run.of("9 the tenth of ten", "person(1) " + Run.TEN_SLIPS + "of(0,3)=9");
    }

    /** Promise 10: slips 0 to 9, GROUPS 0 to 5. */
    private static void wants() {
        Run.each("10 nobody there", "slip(0)", "BEYOND", "wants(0,0,0)", "wants(-1,0,0)");
        Run.each("10 no such one", "person(0)", "BEYOND", "wants(-1,0,0)", "wants(1,0,0)", "wants(MIN,0,0)", "wants(MAX,0,0)");
        Run.of("10 the sixth", Run.SIX_PEOPLE + "wants(5,9,5)=3 wants(5,9,0)=5 wants(6,9,0)=BEYOND");
        Run.of("10 the least slip", "person(0) wants(0,0,4)=0 wants(0,0,0)=4");
        Run.of("10 the greatest slip, though it isn't there", "person(0) wants(0,9,4)=3 wants(0,9,0)=4");
        Run.each("10 no slip's number", "person(0)", "BEYOND", "wants(0,-1,0)", "wants(0,10,0)", "wants(0,MIN,0)",
            "wants(0,MAX,0)");
        Run.of("10 the tenth slip of one, the first of the next", "person(0) person(0) wants(0,10,5)=BEYOND"
            + " wants(1,-1,5)=BEYOND wants(0,9,0)=3 wants(1,0,0)=0");
        Run.of("10 the least GROUP", "person(0) wants(0,3,0)=3 wants(0,3,3)=0");
        Run.of("10 the greatest GROUP", "person(0) wants(0,3,5)=3 wants(0,3,3)=5");
        Run.each("10 no GROUP", "person(0)", "BEYOND", "wants(0,3,-1)", "wants(0,3,6)", "wants(0,3,MIN)", "wants(0,3,MAX)");
        Run.of("10 a refused call leaves it", Run.SOME + "wants(1,1,6)=BEYOND wants(1,1,-1)=BEYOND wants(1,1,0)=5");
        Run.of("10 what it WANTS waits for the slip", "person(0) wants(0,0,5) slip(5) of(0,2)=1");
    }

    /** Promise 11: 0 or 1. */
    private static void out() {
        Run.each("11 nobody there", "", "BEYOND", "out(0,0)", "out(0,1)");
        Run.each("11 no such one", "person(0)", "BEYOND", "out(-1,1)", "out(1,1)", "out(MIN,1)", "out(MAX,1)");
        Run.of("11 the sixth", Run.SIX_PEOPLE + "out(5,1)=0 of(5,1)=1 out(6,1)=BEYOND");
        Run.of("11 1, and 0", "person(0) out(0,1)=0 of(0,1)=1 out(0,1)=1 out(0,0)=1 of(0,1)=0 out(0,0)=0");
        Run.each("11 neither 0 nor 1", "person(0)", "BEYOND", "out(0,-1)", "out(0,2)", "out(0,MIN)", "out(0,MAX)");
        Run.of("11 a refused call leaves it", Run.SOME + "out(1,2)=BEYOND out(1,-1)=BEYOND of(1,1)=1");
    }

    /** Promise 12: KINDS 0 to 5. */
    private static void turn() {
        Run.each("12 nobody there", "", "BEYOND", "turn(0,0)", "turn(0,5)");
        Run.each("12 no such one", "person(0)", "BEYOND", "turn(-1,1)", "turn(1,1)", "turn(MIN,1)", "turn(MAX,1)");
        Run.of("12 the sixth", Run.SIX_PEOPLE + "turn(5,4)=0 of(5,0)=4 turn(6,4)=BEYOND");
        Run.of("12 the least KIND", "person(3) turn(0,0)=3 of(0,0)=0");
        Run.of("12 the greatest KIND", "person(3) turn(0,5)=3 of(0,0)=5");
        Run.of("12 the KIND that it is", "person(3) turn(0,3)=3 of(0,0)=3");
        Run.each("12 no KIND", "person(3)", "BEYOND", "turn(0,-1)", "turn(0,6)", "turn(0,MIN)", "turn(0,MAX)");
        Run.of("12 a refused call leaves it", Run.SOME + "turn(1,6)=BEYOND turn(1,-1)=BEYOND of(1,0)=4");
        Run.of("12 it WANTS what it wanted, and is OUT as it was", "person(3) wants(0,9,5) out(0,1) turn(0,4) of(0,1)=1"
            + " wants(0,9,0)=5");
        Run.of("12 PICKS and TURNS are the new KIND's", "person(0) slip(5) slip(5) turn(0,4) of(0,3)=1 of(0,4)=3");
    }

    /** Promise 13. */
    private static void as() {
        String all = "person(0) person(1) person(2) person(3) person(4) person(5) slip(0) ";
        Run.each("13 nobody there", "slip(0)", "BEYOND", "as(0,0)", "as(-1,0)");
        Run.each("13 no such one", "person(0)", "BEYOND", "as(-1,0)", "as(1,0)", "as(MIN,0)", "as(MAX,0)");
        Run.each("13 no such kind: BEYOND is asked before KIND", all, "BEYOND", "as(0,-1)", "as(0,6)", "as(5,MIN)", "as(5,MAX)");
        Run.of("13 no such one comes before KIND", "person(0) as(1,5)=BEYOND");
        Run.each("13 each as its own KIND", all, "1", "as(0,0)", "as(1,1)", "as(2,2)", "as(3,3)", "as(4,4)", "as(5,5)");
        Run.each("13 each as the KIND above", all, "1", "as(1,0)", "as(2,0)", "as(3,0)", "as(4,1)", "as(5,2)");
        Run.each("13 two above", all, "1", "as(4,0)", "as(5,0)");
        Run.each("13 not as a KIND under its own", all, "KIND", "as(0,1)", "as(0,2)", "as(0,3)", "as(0,4)", "as(0,5)",
            "as(1,4)", "as(2,5)");
        Run.each("13 not as a KIND beside its own", all, "KIND", "as(1,2)", "as(1,3)", "as(1,5)", "as(2,1)", "as(2,3)",
            "as(2,4)", "as(3,1)", "as(3,2)", "as(3,4)", "as(3,5)", "as(4,2)", "as(4,3)", "as(4,5)", "as(5,1)", "as(5,3)",
            "as(5,4)");
        Run.of("13 no slip there", "person(0) as(0,0)=0");
        Run.of("13 of all ten", "person(4) " + Run.TEN_SLIPS + "wants(0,1,0) wants(0,2,0) wants(0,3,0) wants(0,4,0) wants(0,5,0)"
            + " wants(0,7,0) wants(0,8,0) wants(0,9,0) as(0,4)=10 as(0,1)=10 as(0,0)=10");
        Run.of("13 by the KIND that it became", "person(4) turn(0,5) as(0,4)=KIND as(0,1)=KIND as(0,2)=0");
    }

    /** Promise 14. */
    private static void alike() {
        Run.each("14 nobody there", "", "BEYOND", "alike(0,0)", "alike(0,1)");
        Run.each("14 one alone", "person(0)", "BEYOND", "alike(0,0)", "alike(0,1)", "alike(1,0)");
        Run.each("14 one and the same", "person(0) person(0) slip(0)", "BEYOND", "alike(0,0)", "alike(1,1)");
        Run.each("14 no such one", "person(0) person(0)", "BEYOND", "alike(-1,0)", "alike(0,-1)", "alike(2,0)", "alike(0,2)",
            "alike(MIN,0)", "alike(0,MIN)", "alike(MAX,0)", "alike(0,MAX)", "alike(-1,-1)");
        Run.of("14 the sixth", Run.SIX_PEOPLE + "slip(0) alike(0,5)=1 alike(5,0)=1 alike(0,6)=BEYOND");
        Run.of("14 no slip there", "person(0) person(0) alike(0,1)=0");
        Run.of("14 all ten", "person(0) person(0) " + Run.TEN_SLIPS + "alike(0,1)=10 wants(1,9,5) alike(0,1)=9");
        Run.of("14 slips that aren't there count not", "person(0) person(0) slip(0) wants(1,1,5) alike(0,1)=1 slip(0) alike(0,1)=1");
        Run.of("14 also one that is OUT", "person(0) person(0) slip(0) out(1,1) alike(0,1)=1");
        Run.of("14 also a slip on THE FLOOR", "person(0) person(0) slip(-1) alike(0,1)=1");
    }
}
