/** The edges of promises 20 to 26: what is best. */
public final class BestEdgesTest {
    /** Slip 0 IN GROUP 3; one WANTS it in 0, another one in 5. */
    private static final String QUARREL = "slip(3) person(0) person(0) wants(1,0,5) ";
    /** Slip 0 is where all but the sixth WANT it. */
    private static final String SIXTH = "slip(0) " + Run.SIX_PEOPLE + "wants(5,0,5) ";
    /** Ten slips, each where all WANT it. */
    private static final String TEN_IN_PLACE =
        "slip(0) slip(1) slip(2) slip(3) slip(4) slip(5) slip(0) slip(1) slip(2) slip(3) ";

    public static void main(String[] args) {
        rule();
        send();
        kind();
        pair();
        fix();
        winner();
        largest();
        oneAfterAnother();
        Due.end();
    }

    /** Promise 20: MOVES 0 to 20, n 1 to 100. */
    private static void rule() {
        Run.of("20 n: the least", QUARREL + "rule(0,1)=1");
        Run.each("20 n: below", QUARREL, "BEYOND", "rule(0,0)", "rule(0,-1)", "rule(0,MIN)");
        Run.of("20 n: the most", QUARREL + "rule(0,100)=1");
        Run.each("20 n: above", QUARREL, "BEYOND", "rule(0,101)", "rule(0,MAX)");
        Run.each("20 nobody there", "slip(3)", "BEYOND", "rule(0,1)", "rule(-1,1)");
        Run.each("20 no such one", QUARREL, "BEYOND", "rule(-1,1)", "rule(2,1)", "rule(MIN,1)", "rule(MAX,1)");
        Run.of("20 the sixth", SIXTH + "rule(5,6)=1 rule(5,5)=0 rule(6,6)=BEYOND");
        Run.of("20 he needs a second move", QUARREL + "rule(1,1)=0 rule(1,2)=2");
        Run.of("20 MOVES 0, of several the least", QUARREL + "stick(0,0,5) rule(1,100)=0");
        Run.of("20 no slip there", "person(0) rule(0,100)=0");
        Run.of("20 MOVES 19", QUARREL + "stick(0,1,18) rule(0,100)=19");
        Run.of("20 MOVES 20", QUARREL + "stick(0,1,18) rule(1,100)=20");
        Run.of("20 MOVES 20, one more", QUARREL + "stick(0,1,19) rule(0,100)=20");
        Run.of("20 21 would do, but is not asked", QUARREL + "moves(99) stick(0,1,20) rule(0,100)=0");
        Run.of("20 a BOSS needs no MOVES", QUARREL + "turn(0,3) rule(0,100)=0");
        Run.of("20 MOVES stay", QUARREL + "moves(42) rule(0,100)=1 now(1)=42");
    }

    /** Promise 21: n 1 to 100. */
    private static void send() {
        Run.of("21 n: the least", QUARREL + "send(0,1)=1 send(1,1)=0");
        Run.each("21 n: below", QUARREL, "BEYOND", "send(0,0)", "send(0,-1)", "send(0,MIN)");
        Run.of("21 n: the most", QUARREL + "send(0,100)=1");
        Run.each("21 n: above", QUARREL, "BEYOND", "send(0,101)", "send(0,MAX)");
        Run.each("21 nobody there", "slip(3)", "BEYOND", "send(0,1)", "send(-1,1)");
        Run.each("21 no such one", QUARREL, "BEYOND", "send(-1,1)", "send(2,1)", "send(MIN,1)", "send(MAX,1)");
        Run.of("21 one alone", "slip(3) person(0) send(0,1)=NONE");
        Run.each("21 BEYOND is asked before NONE", "slip(3) person(0)", "BEYOND", "send(0,0)", "send(0,101)", "send(1,1)");
        Run.of("21 all others are OUT", SIXTH + "out(0,1) out(1,1) out(2,1) out(3,1) out(4,1) send(5,6)=NONE");
        Run.of("21 all are OUT", QUARREL + "out(0,1) out(1,1) send(0,6)=NONE send(1,6)=NONE");
        Run.of("21 one that is OUT may ask", QUARREL + "out(0,1) send(0,6)=1");
        Run.of("21 one that isn't OUT is left", SIXTH + "out(0,1) out(1,1) out(2,1) out(3,1) send(5,6)=4");
        Run.of("21 the sixth", SIXTH + "send(0,6)=5");
        Run.of("21 of several the least", SIXTH + "send(0,5)=1 send(1,5)=0 send(5,6)=0");
        Run.of("21 not himself, though it were best", "slip(0) person(0) person(0) person(0) wants(0,0,0) send(0,3)=1");
        Run.of("21 no slip there", "person(0) person(0) send(1,100)=0");
        Run.of("21 nobody goes OUT by it", QUARREL + "send(0,100)=1 of(0,1)=0 of(1,1)=0");
    }

    /** Promise 22: n 1 to 100. */
    private static void kind() {
        Run.of("22 n: the least", QUARREL + "kind(0,1)=0");
        Run.each("22 n: below", QUARREL, "BEYOND", "kind(0,0)", "kind(0,-1)", "kind(0,MIN)");
        Run.of("22 n: the most", QUARREL + "kind(1,100)=3");
        Run.each("22 n: above", QUARREL, "BEYOND", "kind(0,101)", "kind(0,MAX)");
        Run.each("22 nobody there", "slip(3)", "BEYOND", "kind(0,1)", "kind(-1,1)");
        Run.each("22 no such one", QUARREL, "BEYOND", "kind(-1,1)", "kind(2,1)", "kind(MIN,1)", "kind(MAX,1)");
        Run.of("22 the sixth", SIXTH + "kind(5,6)=0 kind(6,6)=BEYOND");
        Run.of("22 of several the least, whatever it is", "slip(0) person(5) kind(0,100)=0");
        Run.of("22 no slip there", "person(4) kind(0,100)=0");
        Run.of("22 LOUD: the first that moves two", "person(0) slip(5) slip(5) kind(0,1)=1");
        Run.of("22 BOSS: the first that FIXES", QUARREL + "kind(1,4)=3");
        Run.of("22 PEN: the only one that moves three", "person(0) slip(5) slip(5) slip(5) kind(0,1)=4");
        // Who takes slip 0 drives the other one to take slip 1 away; the QUIET one lets him, and takes slip 2 in MINUTE 3.
        Run.of("22 QUIET: the only one that waits and comes back", "person(0) person(0) person(0) slip(3) slip(1) slip(4)"
            + " stick(0,1,1) stick(1,1,1) stick(2,1,1) wants(1,0,0) wants(1,1,5) wants(1,2,4) out(2,1) moves(2) kind(0,4)=5");
        Run.of("22 KIND stays", "person(5) slip(5) slip(5) slip(5) kind(0,1)=4 of(0,0)=5");
    }

    /** Promise 23. */
    private static void pair() {
        Run.of("23 nobody there", "slip(0) pair()=NONE");
        Run.of("23 one alone", "slip(0) person(0) pair()=NONE");
        Run.of("23 two", "slip(0) person(0) person(0) pair()=1");
        Run.of("23 two that never agree", "slip(0) person(0) person(0) wants(1,0,5) pair()=1");
        Run.of("23 no slip there", Run.SIX_PEOPLE + "pair()=1");
        Run.of("23 two, both OUT", "slip(0) person(0) person(0) out(0,1) out(1,1) pair()=1");
        Run.of("23 the greatest two", "slip(0) " + Run.SIX_PEOPLE
            + "wants(0,0,5) wants(1,0,4) wants(2,0,3) wants(3,0,2) wants(4,0,1) wants(5,0,1) pair()=45");
        Run.of("23 of several the least", "slip(0) " + Run.SIX_PEOPLE
            + "wants(0,0,5) wants(1,0,1) wants(2,0,2) wants(3,0,2) wants(4,0,1) wants(5,0,3) pair()=14");
        Run.of("23 slips that aren't there count not", "slip(0) " + "person(0) ".repeat(3) + "wants(0,1,5) wants(0,0,1) pair()=12"
            + " wants(0,0,0) pair()=1");
    }

    /** Promise 24: n 1 to 60. */
    private static void fix() {
        Run.of("24 n: the least", QUARREL + "fix(1)=0");
        Run.each("24 n: below", QUARREL, "BEYOND", "fix(0)", "fix(-1)", "fix(MIN)");
        Run.of("24 n: the most", QUARREL + "fix(60)=0");
        Run.each("24 n: above", QUARREL, "BEYOND", "fix(61)", "fix(100)", "fix(MAX)");
        Run.of("24 no slip there", "person(0) fix(60)=NONE");
        Run.of("24 all are FIXED", QUARREL + "slip(5) stick(0,2,1) stick(1,2,1) fix(60)=NONE");
        Run.each("24 BEYOND is asked before NONE", "person(0)", "BEYOND", "fix(0)", "fix(61)");
        Run.of("24 the only one that isn't FIXED", QUARREL + "slip(5) stick(0,2,1) fix(60)=1");
        Run.of("24 nobody there: of several the least", "slip(3) slip(3) fix(60)=0 stick(0,2,1) fix(60)=1");
        Run.of("24 nothing moves: of several the least", "person(0) " + TEN_IN_PLACE + "fix(60)=0");
        Run.of("24 the tenth", "person(0) " + TEN_IN_PLACE + "stick(9,0,5) fix(1)=9 fix(60)=9");
        // A BOSS moves slip 0 first, which is held to 999; with slip 0 FIXED he moves slip 1, which is not held.
        Run.of("24 MOVED is held to 999", "slip(3) slip(3) stick(0,1,999) person(3) fix(1)=1 fix(60)=1");
        Run.of("24 the slip isn't FIXED by it", QUARREL + "fix(60)=0 now(4)=0");
    }

    /** Promise 25: n 0 to 200. */
    private static void winner() {
        Run.of("25 n: the least", QUARREL + "stick(0,0,5) winner(0)=1");
        Run.each("25 n: below", QUARREL, "BEYOND", "winner(-1)", "winner(MIN)");
        Run.of("25 n: the most", QUARREL + "moves(2) winner(200)=1");
        Run.each("25 n: above", QUARREL, "BEYOND", "winner(201)", "winner(MAX)");
        Run.of("25 nobody there", "slip(0) winner(0)=NONE winner(200)=NONE");
        Run.each("25 BEYOND is asked before NONE", "slip(0)", "BEYOND", "winner(-1)", "winner(201)");
        Run.of("25 of several the least", "slip(3) " + Run.SIX_PEOPLE + "moves(0) winner(0)=0 winner(200)=0");
        Run.of("25 no slip there", Run.SIX_PEOPLE + "winner(200)=0");
        Run.of("25 the sixth", "slip(3) " + Run.SIX_PEOPLE + "wants(5,0,3) moves(0) winner(0)=5 winner(200)=5");
        Run.of("25 also one that is OUT", QUARREL + "out(0,1) out(1,1) stick(0,0,5) winner(200)=1");
    }

    /** Promise 26: n 0 to 200. */
    private static void largest() {
        Run.of("26 n: the least", "slip(4) largest(0)=4");
        Run.each("26 n: below", "slip(4)", "BEYOND", "largest(-1)", "largest(MIN)");
        Run.of("26 n: the most", "slip(4) largest(200)=4");
        Run.each("26 n: above", "slip(4)", "BEYOND", "largest(201)", "largest(MAX)");
        Run.of("26 no slip there", "largest(0)=0 largest(200)=0");
        Run.of("26 all on THE FLOOR", "slip(-1) slip(-1) largest(0)=0");
        Run.of("26 THE FLOOR is no GROUP", "slip(-1) slip(-1) slip(5) largest(0)=5");
        Run.of("26 the greatest GROUP", "slip(0) slip(5) slip(5) largest(0)=5");
        Run.of("26 of several the least", "slip(5) slip(5) slip(4) slip(4) slip(3) largest(0)=4");
        Run.of("26 of six the least", "slip(5) slip(4) slip(3) slip(2) slip(1) slip(0) largest(200)=0");
        Run.of("26 ON, not now", "person(0) slip(3) slip(3) wants(0,0,4) wants(0,1,4) largest(0)=3 largest(1)=3 largest(2)=4");
    }

    /** What one call found best is nothing to the next, though it was better: the next answers as if asked alone. */
    private static void oneAfterAnother() {
        String[] calls = {"rule(0,1)", "send(0,1)", "kind(0,1)", "pair()", "fix(1)", "winner(0)", "largest(0)", "slipOf(0,4)"};
        String alike = "slip(-1) ".repeat(10) + Run.SIX_PEOPLE + "moves(0) ";
        String oneGroup = "slip(5) ".repeat(10) + "person(0) person(0) wants(0,0,1) wants(0,1,2) ";
        for (String wall : new String[] {alike, oneGroup}) {
            for (String first : calls) {
                for (String second : calls) {
                    long alone = Calls.make(made(wall), Calls.name(second), Calls.arguments(second));
                    SlipWall x = made(wall);
                    Calls.make(x, Calls.name(first), Calls.arguments(first));
                    Due.due("20 to 26: " + second + " behind " + first,
                        Calls.make(x, Calls.name(second), Calls.arguments(second)), alone);
                }
            }
        }
    }

    private static SlipWall made(String wall) {
        SlipWall x = new SlipWall();
        for (String call : wall.trim().split(" ")) {
            Calls.make(x, Calls.name(call), Calls.arguments(call));
        }
        return x;
    }
}
