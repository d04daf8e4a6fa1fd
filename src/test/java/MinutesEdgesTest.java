/** The edges of promises 15 to 19: minutes, with what sections 1 and 2 say of a MINUTE, of DONE and of ON. */
public final class MinutesEdgesTest {
    /** Slip 0 IN GROUP 3; one WANTS it in 0, another one in 5. */
    private static final String QUARREL = "slip(3) person(0) person(0) wants(1,0,5) ";

    public static void main(String[] args) {
        minutes();
        aMinute();
        held();
        fixes();
        lastMinute();
        on();
        onChangesNothing();
        way();
        done();
        moved();
        Due.end();
    }

    /** Promise 15: 1 to 100. */
    private static void minutes() {
        Run.of("15 the least", QUARREL + "minutes(1)=1 now(0)=1");
        Run.each("15 below", QUARREL, "BEYOND", "minutes(0)", "minutes(-1)", "minutes(MIN)");
        Run.of("15 the most", QUARREL + "moves(99) minutes(100)=99 now(0)=100");
        Run.each("15 above", QUARREL, "BEYOND", "minutes(101)", "minutes(MAX)");
        Run.of("15 a refused call leaves all", Run.SOME + "minutes(0)=BEYOND minutes(101)=BEYOND now(0)=4");
        Run.of("15 MOVED of all together, not of this time alone", QUARREL + "minutes(1)=1 minutes(1)=2 minutes(1)=3 minutes(1)=3");
    }

    /** Promise 15: who, how many slips, and when nothing is moved. */
    private static void aMinute() {
        Run.of("15 nobody there: MINUTE goes all the same", "slip(3) minutes(100)=0 now(0)=100 slipOf(0,0)=3");
        Run.of("15 no slip there", "person(4) minutes(100)=0 now(0)=100");
        Run.of("15 one alone that is OUT", "slip(3) person(3) out(0,1) minutes(100)=0 now(0)=100 slipOf(0,0)=3");
        Run.of("15 the MINUTE of one that is OUT goes to nobody", QUARREL + "out(0,1) minutes(1)=0 now(2)=1 minutes(1)=1 slipOf(0,0)=5");
        Run.of("15 the turn comes round", "slip(3) " + Run.SIX_PEOPLE + "wants(0,0,3) wants(1,0,3) wants(2,0,3) wants(3,0,3)"
            + " wants(4,0,3) wants(5,0,4) minutes(5)=0 minutes(1)=1 slipOf(0,0)=4 minutes(1)=2 slipOf(0,0)=3");
        Run.of("15 a LOUD one moves two", "person(1) slip(5) slip(5) slip(5) minutes(1)=2 group(5)=1");
        Run.of("15 a LOUD one with one slip to move", "person(1) slip(0) slip(5) minutes(1)=1");
        Run.of("15 a PEN moves three", "person(4) slip(5) slip(5) slip(5) slip(5) minutes(1)=3 group(5)=1");
        Run.of("15 a PEN with two slips to move", "person(4) slip(5) slip(5) minutes(1)=2 slipOf(0,1)=1 slipOf(1,1)=1");
        Run.of("15 a BOSS moves one", "person(3) slip(5) slip(5) minutes(1)=1 group(5)=2");
        Run.of("15 a QUIET one in an even MINUTE", "person(5) slip(5) stick(0,1,1) minutes(1)=1 slipOf(0,0)=5");
        Run.of("15 a QUIET one in an odd MINUTE", "person(5) slip(5) stick(0,1,1) minutes(2)=2 slipOf(0,0)=0");
        Run.of("15 a slip comes up from THE FLOOR", "person(0) slip(-1) minutes(1)=1 slipOf(0,0)=0 count(3)=0");
        Run.of("15 nobody moves one that is FIXED", "slip(3) person(3) stick(0,2,1) minutes(100)=0 slipOf(0,0)=3");
        Run.of("15 the rule: three times, no fourth", QUARREL + "minutes(3)=3 slipOf(0,0)=0 minutes(1)=3 slipOf(0,0)=0");
        Run.of("15 with MOVES 0 none", QUARREL + "moves(0) minutes(100)=0");
        Run.of("15 MOVES lowered below MOVED", QUARREL + "minutes(2)=2 moves(1) minutes(100)=2");
    }

    /** Section 1: MOVED is held to 999. */
    private static void held() {
        Run.of("15 MOVED 998 becomes 999", "slip(3) person(3) stick(0,1,998) minutes(1)=999 slipOf(0,1)=999 slipOf(0,0)=0");
        Run.of("15 MOVED 999 stays, though it is moved",
            "slip(3) person(3) stick(0,1,999) minutes(1)=999 slipOf(0,1)=999 slipOf(0,0)=0 slipOf(0,2)=1");
        Run.of("16 held ON, too", "slip(3) person(3) stick(0,1,999) on(0,1,1)=999 on(0,1,0)=0 on(0,200,1)=999");
        Run.of("15 all together with one held", "slip(3) slip(3) person(3) stick(0,1,999) minutes(2)=1000");
    }

    /** Section 1, FIXES: the PEN if MOVED is 5 or more then. */
    private static void fixes() {
        Run.of("15 a PEN: 4 then", "slip(3) person(4) moves(99) stick(0,1,3) minutes(1)=4 slipOf(0,2)=0");
        Run.of("15 a PEN: 5 then", "slip(3) person(4) moves(99) stick(0,1,4) minutes(1)=5 slipOf(0,2)=1");
        Run.of("15 a PEN: 6 then", "slip(3) person(4) moves(99) stick(0,1,5) minutes(1)=6 slipOf(0,2)=1");
        Run.of("15 a PEN: 99 then", "slip(3) person(4) moves(99) stick(0,1,98) minutes(1)=99 slipOf(0,2)=1");
        Run.of("15 a BOSS: 1 then", "slip(3) person(3) minutes(1)=1 slipOf(0,2)=1");
        Run.of("15 a BOSS FIXES it for good", "slip(3) person(3) person(3) wants(1,0,5) minutes(100)=1 slipOf(0,0)=0");
        for (String kind : new String[] {"0", "1"}) {
            Run.of("15 KIND " + kind + " FIXES none",
                "slip(3) person(" + kind + ") moves(99) stick(0,1,98) minutes(1)=99 slipOf(0,2)=0");
        }
        Run.of("15 a SHY one FIXES none", "slip(3) person(2) minutes(1)=1 slipOf(0,2)=0");
        Run.of("15 a QUIET one FIXES none", "minutes(1) slip(3) person(5) moves(99) stick(0,1,98) minutes(1)=99 slipOf(0,2)=0");
    }

    /**
     * Section 1: MINUTE is 99999 at most; promise 15, STATE. No run of 512 calls comes so far, so these answers are
     * free; this class gives those of the document all the same.
     */
    private static void lastMinute() {
        SlipWall x = new SlipWall();
        x.slip(3);
        x.person(0);
        for (int i = 0; i < 999; i++) {
            x.minutes(100);
        }
        Due.due("15 MINUTE", x.now(0), 99900);
        Due.due("15 100000 would be above", x.minutes(100), Due.STATE);
        Due.due("15 BEYOND is asked before STATE", x.minutes(101), Due.BEYOND);
        Due.due("15 BEYOND is asked before STATE, below", x.minutes(0), Due.BEYOND);
        Due.due("15 STATE leaves MINUTE", x.now(0), 99900);
        Due.due("40 STATE is counted", x.status(4), 1);
        Due.due("15 99999 may be", x.minutes(99), 1);
        Due.due("15 the last MINUTE", x.now(0), 99999);
        Due.due("15 none more", x.minutes(1), Due.STATE);
        Due.due("15 still the last MINUTE", x.now(0), 99999);
        Due.due("40 STATE is counted again", x.status(4), 2);
        Due.due("40 all", x.status(-1), 4);
    }

    /** Promise 16: n 0 to 200, what 0 to 2. */
    private static void on() {
        Run.of("16 n: the least", QUARREL + "on(0,0,0)=3 on(0,0,1)=0 on(0,0,2)=0");
        Run.each("16 n: below", QUARREL, "BEYOND", "on(0,-1,0)", "on(0,MIN,0)");
        Run.of("16 n: the most", QUARREL + "on(0,200,0)=0 on(0,200,1)=3 on(0,200,2)=0");
        Run.each("16 n: above", QUARREL, "BEYOND", "on(0,201,0)", "on(0,MAX,0)");
        Run.each("16 another what", QUARREL, "BEYOND", "on(0,1,-1)", "on(0,1,3)", "on(0,1,MIN)", "on(0,1,MAX)", "on(0,0,3)");
        Run.each("16 no slip there", "person(0)", "BEYOND", "on(0,0,0)", "on(-1,0,0)");
        Run.each("16 no such slip", QUARREL, "BEYOND", "on(-1,1,0)", "on(1,1,0)", "on(MIN,1,0)", "on(MAX,1,0)");
        Run.of("16 the tenth slip", Run.TEN_SLIPS + "on(9,200,0)=0 on(10,200,0)=BEYOND");
        Run.of("16 THE FLOOR", "slip(-1) on(0,0,0)=-1 on(0,200,0)=-1");
        Run.of("16 the last MINUTE of many", QUARREL + "moves(99) on(0,98,1)=98 on(0,99,1)=99 on(0,100,1)=99 on(0,200,1)=99");
        Run.of("16 from now on", QUARREL + "minutes(2) on(0,0,0)=5 on(0,1,0)=0 on(0,1,1)=3");
        Run.of("16 the 200th MINUTE", toAndFro() + "on(2,198,1)=0 on(2,199,1)=1 on(2,200,1)=2");
    }

    /** Two who move three slips to and fro, one each MINUTE, 99 times each: 297 MINUTES. */
    private static String toAndFro() {
        return "person(0) person(0) slip(0) slip(0) slip(0) wants(0,0,1) wants(0,1,1) wants(0,2,1)"
            + " wants(1,0,2) wants(1,1,2) wants(1,2,2) moves(99) ";
    }

    /** Section 2: ON, nothing changes; the twin of the run, which is asked nothing, shows it. */
    private static void onChangesNothing() {
        for (String before : new String[] {Run.SOME, QUARREL, toAndFro()}) {
            Run.of("16 to 26: asking changes nothing", before, "now(0)=" + (before.equals(Run.SOME) ? 4 : 0));
            for (String call : new String[] {"on(0,200,0)", "on(0,1,1)", "way(0,200)", "done()", "moved(0)", "rule(0,100)",
                "send(0,100)", "kind(0,100)", "pair()", "fix(60)", "winner(200)", "largest(200)", "slipOf(0,4)", "of(0,3)",
                "as(0,0)", "alike(0,1)", "group(0)", "now(5)", "count(3)"}) {
                Run.asks("section 2, " + call, before, call);
            }
        }
        Run.asks("35 reading changes nothing", Run.SOME, "read(0,0,0)");
        Run.asks("35 reading changes nothing", Run.SOME + "sheet(3,64,40) book(3,0) ", "read(3,0,1)");
    }

    /** Promise 17: n 0 to 200. */
    private static void way() {
        Run.of("17 n: the least", QUARREL + "way(0,0)=0 way(1,0)=0");
        Run.of("17 n: the most", QUARREL + "way(0,200)=1 way(1,200)=0");
        Run.each("17 n: below", QUARREL, "BEYOND", "way(0,-1)", "way(0,MIN)");
        Run.each("17 n: above", QUARREL, "BEYOND", "way(0,201)", "way(0,MAX)");
        Run.each("17 nobody there", "slip(0)", "BEYOND", "way(0,0)", "way(-1,0)");
        Run.each("17 no such one", QUARREL, "BEYOND", "way(-1,0)", "way(2,0)", "way(MIN,0)", "way(MAX,0)");
        Run.of("17 the sixth", "slip(0) " + Run.SIX_PEOPLE + "way(5,200)=1 way(6,200)=BEYOND");
        Run.of("17 no slip there", "person(0) way(0,200)=0");
        Run.of("17 all ten", "person(0) " + Run.TEN_SLIPS + "way(0,0)=2 way(0,7)=9 way(0,8)=10 way(0,200)=10");
        // Slip 0 is hers at last (MINUTE 98), slip 1 his (197); slip 2 is hers in MINUTE 198, his in 199.
        Run.of("17 the 200th MINUTE", toAndFro() + "way(0,199)=2 way(1,199)=1 way(0,200)=1 way(1,200)=2");
        Run.of("17 also one that is OUT", QUARREL + "out(0,1) out(1,1) stick(0,0,5) way(1,200)=1");
    }

    /** Promise 18: 0 to 200. */
    private static void done() {
        Run.of("18 nobody there", "slip(3) done()=0");
        Run.of("18 no slip there", "person(0) person(4) done()=0");
        Run.of("18 nothing there", "done()=0");
        Run.of("18 all are OUT", QUARREL + "out(0,1) out(1,1) done()=0");
        Run.of("18 all are FIXED", QUARREL + "stick(0,2,1) done()=0");
        Run.of("18 all as all WANT", "slip(0) " + Run.SIX_PEOPLE + "done()=0");
        Run.of("18 with MOVES 0", QUARREL + "moves(0) done()=0");
        Run.of("18 after one", QUARREL + "moves(1) done()=1");
        Run.of("18 one MINUTE less than there are PEOPLE is not enough",
            "slip(0) " + Run.SIX_PEOPLE + "wants(5,0,4) moves(1) done()=6");
        Run.of("18 as many MINUTES as there are PEOPLE are enough",
            "slip(3) stick(0,1,1) person(5) done()=0 moved(0)=2");
        Run.of("18 one more of the PEOPLE, and it is not enough",
            "slip(3) stick(0,1,1) person(2) person(5) done()=2 moved(0)=2");
        Run.of("18 from now on", QUARREL + "minutes(1) done()=2 minutes(1) done()=1 minutes(1) done()=0");
        // Ten slips that two move to and fro, one each MINUTE, 21 times each: 210 less those that went before.
        String ten = "person(0) person(0) " + Run.TEN_SLIPS + wantsAll(0, 1) + wantsAll(1, 2) + "moves(21) ";
        Run.of("18 199", ten + "stick(0,1,11) done()=199");
        Run.of("18 200", ten + "stick(0,1,10) done()=200");
        Run.of("18 201 is too late", ten + "stick(0,1,9) done()=NONE");
        Run.of("18 202 is too late", ten + "stick(0,1,8) done()=NONE");
        Run.of("18 never in sight", toAndFro() + "done()=NONE");
    }

    private static String wantsAll(int person, int group) {
        StringBuilder calls = new StringBuilder();
        for (int slip = 0; slip < 10; slip++) {
            calls.append("wants(").append(person).append(',').append(slip).append(',').append(group).append(") ");
        }
        return calls.toString();
    }

    /** Promise 19: 1 to 200. */
    private static void moved() {
        Run.each("19 no slip there", "person(0)", "BEYOND", "moved(0)", "moved(-1)");
        Run.each("19 no such slip", QUARREL, "BEYOND", "moved(-1)", "moved(1)", "moved(MIN)", "moved(MAX)");
        Run.of("19 the tenth slip", "person(1) " + Run.TEN_SLIPS + "moved(9)=1 moved(10)=BEYOND");
        Run.of("19 the least", QUARREL + "moved(0)=1");
        Run.of("19 nobody there", "slip(3) moved(0)=NONE");
        Run.of("19 BEYOND, not NONE, of no such slip", "slip(3) moved(1)=BEYOND");
        Run.of("19 it is FIXED", QUARREL + "stick(0,2,1) moved(0)=NONE");
        Run.of("19 all are OUT", QUARREL + "out(0,1) out(1,1) moved(0)=NONE");
        Run.of("19 all as all WANT", "slip(0) " + Run.SIX_PEOPLE + "moved(0)=NONE");
        Run.of("19 MOVED is held to 999, and yet it is moved", "slip(3) person(3) stick(0,1,999) moved(0)=1");
        Run.of("19 199", toAndFro() + "moved(2)=199");
        Run.of("19 200", toAndFro() + "moves(99) slip(0) wants(0,3,1) wants(1,3,2) stick(2,1,98) moved(3)=200");
        Run.of("19 201 is too late", toAndFro() + "moves(99) slip(0) wants(0,3,1) wants(1,3,2) stick(2,1,97) moved(3)=NONE");
        Run.of("19 next, not first", QUARREL + "minutes(1) moved(0)=1 minutes(2) moved(0)=NONE");
    }
}
