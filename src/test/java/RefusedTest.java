/**
 * "One that answers a finding changes nothing but status()": every way in which each call can be refused, on walls that
 * have something of everything, so that a change of anything would show against the twin of the run.
 */
public final class RefusedTest {
    /** What FULL needs: ten slips, six PEOPLE, a full tape; an image and SHEETS as well. */
    private static final String FULL = "slip(3) slip(-1) slip(4) person(0) person(4) wants(1,1,5) out(1,1) stick(1,1,7)"
        + " stick(1,2,1) minutes(3) moves(7) image() " + "slip(5) ".repeat(7) + "person(5) ".repeat(4)
        + "wants(0,2,0) turn(0,2) minutes(1) sheet(0,8,3) write(0,1,5) sheet(1,16,0) sheet(2,8,4) write(2,3,-1) "
        + "feed(1836021349,4) feed(1931489339,4) ".repeat(14) + "feed(1836021349,4) feed(1931489312,4) ";
    /** As Run.SOME, but without slips now; the image has some. */
    private static final String NO_SLIPS = "person(0) person(4) wants(1,1,5) out(1,1) image() turn(0,2) wants(0,0,4)"
        + " minutes(1) moves(7) sheet(0,8,3) write(0,1,5) sheet(2,8,4) write(2,3,-1) feed(1885695547,4) feed(7563385,3) ";
    /** As Run.SOME, but with nobody there now, or one alone. */
    private static final String NOBODY = "slip(3) slip(-1) stick(1,1,7) stick(1,2,1) image() slip(4) minutes(1) moves(7)"
        + " sheet(0,8,3) write(0,1,5) sheet(2,8,4) write(2,3,-1) feed(1885695547,4) feed(7563385,3) ";
    private static final String ALONE = NOBODY + "person(0) wants(0,1,5) ";
    private static final String NO_IMAGE = Run.SOME + "tear() ";

    public static void main(String[] args) {
        beyond();
        full();
        kind();
        none();
        state();
        missing();
        size();
        Due.end();
    }

    private static void beyond() {
        Run.each("refused", Run.SOME, "BEYOND", "moves(-1)", "moves(100)", "slip(-2)", "slip(6)", "slipOf(-1,0)", "slipOf(3,0)",
            "slipOf(0,-1)", "slipOf(0,5)", "stick(-1,0,0)", "stick(3,0,0)", "stick(0,-1,0)", "stick(0,3,0)", "stick(0,0,-2)",
            "stick(0,0,6)", "stick(0,1,-1)", "stick(0,1,1000)", "stick(0,2,-1)", "stick(0,2,2)", "group(-2)", "group(6)",
            "now(-1)", "now(6)");
        Run.each("refused", Run.SOME, "BEYOND", "person(-1)", "person(6)", "of(-1,0)", "of(2,0)", "of(0,-1)", "of(0,5)",
            "wants(-1,0,0)", "wants(2,0,0)", "wants(0,-1,0)", "wants(0,10,0)", "wants(0,0,-1)", "wants(0,0,6)", "out(-1,0)",
            "out(2,0)", "out(0,-1)", "out(0,2)", "turn(-1,0)", "turn(2,0)", "turn(0,-1)", "turn(0,6)", "as(-1,0)", "as(2,0)",
            "as(0,-1)", "as(0,6)", "alike(-1,0)", "alike(2,0)", "alike(0,-1)", "alike(0,2)", "alike(0,0)");
        Run.each("refused", Run.SOME, "BEYOND", "minutes(0)", "minutes(101)", "on(-1,0,0)", "on(3,0,0)", "on(0,-1,0)",
            "on(0,201,0)", "on(0,0,-1)", "on(0,0,3)", "way(-1,0)", "way(2,0)", "way(0,-1)", "way(0,201)", "moved(-1)", "moved(3)");
        Run.each("refused", Run.SOME, "BEYOND", "rule(-1,1)", "rule(2,1)", "rule(0,0)", "rule(0,101)", "send(-1,1)", "send(2,1)",
            "send(0,0)", "send(0,101)", "kind(-1,1)", "kind(2,1)", "kind(0,0)", "kind(0,101)", "fix(0)", "fix(61)", "winner(-1)",
            "winner(201)", "largest(-1)", "largest(201)");
        Run.each("refused", Run.SOME, "BEYOND", "feed(0,0)", "feed(0,5)", "sheet(-1,8,1)", "sheet(4,8,1)", "sheet(0,9,1)",
            "sheet(0,8,41)", "sheet(0,0,41)", "write(-1,0,0)", "write(4,0,0)", "write(0,-1,9)", "write(0,3,9)", "write(1,0,9)",
            "copy(-1,0,0,0,1)", "copy(0,0,4,0,1)", "copy(0,-1,2,0,1)", "copy(0,0,2,-1,1)", "copy(0,0,2,0,-1)", "copy(0,0,2,0,4)",
            "copy(2,0,0,0,4)", "copy(2,1,0,1,3)", "lays(-1,0)", "lays(4,0)", "lays(0,-1)", "lays(0,2)", "book(-1,0)", "book(4,0)",
            "book(0,-1)", "book(0,3)", "read(-1,0,0)", "read(4,0,0)", "read(0,-1,0)", "read(0,3,0)", "read(0,0,-1)",
            "read(0,0,2)");
        Run.each("refused", Run.SOME, "BEYOND", "count(-1)", "count(4)", "status(-2)", "status(7)");
        Run.each("refused on a full wall", FULL, "BEYOND", "slip(6)", "person(6)", "feed(0,5)", "slipOf(10,0)", "of(6,0)");
    }

    private static void full() {
        Run.each("refused", FULL, "FULL", "slip(-1)", "slip(0)", "slip(5)", "person(0)", "person(5)", "feed(0,1)", "feed(0,4)");
        Run.each("refused, with room for less", Run.SOME + "feed(0,4) ".repeat(27) + "feed(0,2) ", "FULL", "feed(0,4)");
    }

    private static void kind() {
        Run.each("refused", Run.SOME, "KIND", "as(0,1)", "as(0,3)", "as(0,5)", "as(1,2)", "as(1,5)", "copy(0,0,1,0,0)",
            "copy(1,0,2,0,1)", "copy(0,-1,1,0,9)");
    }

    private static void none() {
        Run.each("refused", NOBODY, "NONE", "pair()", "winner(0)", "winner(200)", "moved(0)");
        Run.each("refused", ALONE, "NONE", "pair()", "send(0,1)", "send(0,100)", "moved(1)");
        Run.each("refused", NO_SLIPS, "NONE", "fix(1)", "fix(60)", "send(0,9)");
        Run.each("refused", NO_IMAGE, "NONE", "undo()");
        Run.of("refused, and SHEETS stay", NO_IMAGE + "undo()=NONE write(0,1,0)=5 write(2,3,0)=-1 write(2,4,0)=BEYOND");
        Run.each("refused", Run.SOME + "out(1,0) moves(99) wants(0,0,5) wants(1,0,4) turn(0,0) turn(1,0) slip(3) slip(3)"
            + " wants(0,2,1) wants(0,3,1) wants(0,4,2) ", "NONE", "done()", "moved(1)");
        Run.each("refused", Run.SOME + "stick(0,2,1) stick(2,2,1) ", "NONE", "fix(60)", "moved(0)", "moved(1)");
    }

    /** After far more than 512 calls, where answers are free; this class goes on as before. */
    private static void state() {
        Run.late("refused", Run.SOME + "minutes(100) ".repeat(999), "minutes(96)=STATE minutes(100)=STATE now(0)=99904");
        Run.late("refused", Run.SOME + "minutes(100) ".repeat(999) + "minutes(95) ", "now(0)=99999 minutes(1)=STATE");
    }

    private static void missing() {
        Run.each("refused", Run.SOME, "MISSING", "write(3,0,9)", "write(3,-1,9)", "copy(3,0,0,0,1)", "copy(0,0,3,0,1)",
            "copy(3,0,3,0,0)", "lays(3,0)", "lays(3,9)", "book(3,0)", "book(3,9)", "read(3,0,0)", "read(3,9,9)");
    }

    private static void size() {
        Run.each("refused", Run.SOME, "SIZE", "sheet(0,8,-1)", "sheet(0,16,-1)", "sheet(0,64,-1)", "sheet(0,0,-1)",
            "sheet(3,8,-1)", "sheet(0,8,MIN)");
    }
}
