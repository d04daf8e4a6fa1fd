/** The edges of promises 36 to 40: images, count, status. */
public final class ImagesEdgesTest {
    public static void main(String[] args) {
        image();
        undo();
        tear();
        count();
        status();
        eachFindingIsCounted();
        Due.end();
    }

    /** Promise 36. */
    private static void image() {
        Run.of("36 of an empty wall", "image()=1 slip(3) person(3) minutes(9) moves(9) undo()=0 count(1)=0 now(0)=0 now(1)=3");
        Run.of("36 of a full wall", Run.TEN_SLIPS + Run.SIX_PEOPLE + "wants(5,9,5) stick(9,1,999) stick(9,2,1) image()=1"
            + " wants(5,9,0) stick(9,1,0) stick(9,2,0) undo()=10 count(1)=6 slipOf(9,1)=999 slipOf(9,2)=1 wants(5,9,0)=5");
        Run.of("36 again and again", "image()=1 image()=1 slip(0) image()=1 tear()=1 tear()=0");
        Run.of("36 MINUTE", "minutes(7) image() minutes(1) undo()=0 now(0)=7");
        Run.of("36 MOVES", "moves(0) image() moves(99) undo()=0 now(1)=0");
        Run.of("36 IN", "slip(-1) image() stick(0,0,5) undo()=1 slipOf(0,0)=-1");
        Run.of("36 MOVED", "slip(0) stick(0,1,999) image() stick(0,1,0) undo()=1 slipOf(0,1)=999");
        Run.of("36 FIXED", "slip(0) stick(0,2,1) image() stick(0,2,0) undo()=1 slipOf(0,2)=1");
        Run.of("36 KIND", "person(5) image() turn(0,0) undo()=0 of(0,0)=5");
        Run.of("36 OUT", "person(0) out(0,1) image() out(0,0) undo()=0 of(0,1)=1");
        Run.of("36 WANTS, also of slips that aren't there", "person(0) wants(0,9,5) image() wants(0,9,0) undo()=0 wants(0,9,0)=5");
        Run.of("36 THE TAPE not", "feed(0,4) image() wipe() undo()=0 count(2)=0");
    }

    /** Promise 37. */
    private static void undo() {
        Run.of("37 nothing is kept", "slip(0) undo()=NONE count(0)=1");
        Run.of("37 nothing is kept any more", "image() slip(0) tear() undo()=NONE count(0)=1");
        Run.of("37 it stays", "slip(0) image() slip(0) undo()=1 slip(0) slip(0) undo()=1 undo()=1 tear()=1");
        Run.of("37 it stays as it was, whatever comes after undo()", "slip(0) image() undo()=1 stick(0,0,5) undo()=1 slipOf(0,0)=0");
        Run.of("37 the latest", "image() slip(0) image() slip(0) undo()=1 undo()=1");
        Run.of("37 none of ten are left", "image() " + Run.TEN_SLIPS + "slip(0)=FULL undo()=0 slip(3)=0");
        Run.of("37 nobody of six is left", "image() " + Run.SIX_PEOPLE + "person(0)=FULL undo()=0 person(3)=0 of(0,0)=3");
        Run.of("37 back to ten", Run.TEN_SLIPS + "image() undo()=10 slip(0)=FULL");
        Run.of("37 a slip that comes then is new", "image() slip(4) stick(0,1,999) stick(0,2,1) undo()=0 slip(1)=0 slipOf(0,0)=1"
            + " slipOf(0,1)=0 slipOf(0,2)=0");
        Run.of("37 one that comes then is new", "image() person(4) out(0,1) wants(0,9,5) undo()=0 person(1)=0 of(0,0)=1 of(0,1)=0"
            + " wants(0,9,0)=3");
        Run.of("37 THE TAPE stays", "image()", "tape:pen", "undo()=0 count(2)=3 wall()=1 count(1)=1");
        Run.of("37 SHEETS stay", "sheet(0,8,1) image() write(0,0,7) sheet(1,16,2) undo()=0 write(0,0,0)=7 write(1,1,0)=0");
        Run.of("37 SHEETS that went stay away", "sheet(0,8,1) image() sheet(0,0,0) undo()=0 write(0,0,0)=MISSING");
        Run.of("37 findings stay", "image() slip(9)=BEYOND undo()=0 status(0)=1 status(-1)=1");
        Run.of("37 with a wall told in a text", "slip(0) image()", "tape:slip 1;pen;moves 9", "wall()=3 undo()=1 count(1)=0 now(1)=3");
    }

    /** Promise 38. */
    private static void tear() {
        Run.of("38 nothing was kept", "tear()=0 tear()=0 status(-1)=0");
        Run.of("38 something was", "image() tear()=1 tear()=0");
        Run.of("38 of several all", "image() slip(0) image() tear()=1 undo()=NONE");
        Run.of("38 kept anew", "image() tear()=1 slip(0) image()=1 slip(0) undo()=1");
        Run.of("38 what is there stays", "slip(3) image() slip(4) tear()=1 count(0)=2 slipOf(1,0)=4");
    }

    /** Promise 39: what 0 to 3. */
    private static void count() {
        Run.each("39 another what", Run.SOME, "BEYOND", "count(-1)", "count(4)", "count(MIN)", "count(MAX)");
        Run.of("39 nothing there", "count(0)=0 count(1)=0 count(2)=0 count(3)=0");
        Run.of("39 ten SLIPS", Run.TEN_SLIPS + "count(0)=10 slip(0)=FULL count(0)=10");
        Run.of("39 six PEOPLE", Run.SIX_PEOPLE + "count(1)=6 person(0)=FULL count(1)=6");
        Run.of("39 also those that are OUT", "person(0) person(0) out(0,1) out(1,1) count(1)=2");
        Run.of("39 120 bytes", "feed(0,4) ".repeat(30) + "count(2)=120 feed(0,1)=FULL count(2)=120");
        Run.of("39 ten on THE FLOOR", "slip(-1) ".repeat(10) + "count(3)=10 stick(9,0,0) count(3)=9");
        Run.of("39 none on THE FLOOR", Run.TEN_SLIPS + "count(3)=0");
    }

    /** Promise 40: -1 to 6. */
    private static void status() {
        Run.each("40 another one", Run.SOME, "BEYOND", "status(-2)", "status(7)", "status(MIN)", "status(MAX)");
        Run.of("40 the least and the most", "status(-1)=0 status(6)=0 sheet(0,8,-1)=SIZE status(6)=1 status(-1)=1");
        Run.of("40 counted from then on", "status(7)=BEYOND status(0)=1 status(-1)=1 status(-2)=BEYOND status(0)=2 status(-1)=2");
        Run.of("40 asking it right counts not", "status(0)=0 status(-1)=0 status(0)=0 status(-1)=0");
        Run.of("40 undo() takes none back", "image() slip(9)=BEYOND pair()=NONE undo()=0 status(0)=1 status(3)=1 status(-1)=2");
        Run.of("40 tear() takes none back", "slip(9)=BEYOND image() tear()=1 status(-1)=1");
        Run.of("40 a FAULT is no finding", "tape:pan", "wall()=-1 status(-1)=0 wall()=-1 status(-1)=0");
        Run.of("40 -1 is no finding", "slip(-1) slipOf(0,0)=-1 slipOf(0,4)=-1 now(2)=-1 status(-1)=0");
        Run.of("40 of one act one", "slip(0) slipOf(9,9)=BEYOND status(-1)=1 copy(9,-1,9,-1,-1)=BEYOND status(-1)=2");
    }

    private static void eachFindingIsCounted() {
        Run.of("40 each by itself", "moves(100)=BEYOND status(0)=1 " + Run.SIX_PEOPLE + "person(0)=FULL person(0)=FULL status(1)=2"
            + " as(0,1)=KIND as(0,2)=KIND as(0,3)=KIND status(2)=3 undo()=NONE undo()=NONE undo()=NONE undo()=NONE status(3)=4"
            + " status(4)=0 write(0,0,0)=MISSING status(5)=1 sheet(0,0,-1)=SIZE sheet(0,8,-1)=SIZE status(6)=2"
            + " status(0)=1 status(1)=2 status(2)=3 status(3)=4 status(4)=0 status(5)=1 status(6)=2 status(-1)=13");
        SlipWall x = new SlipWall();
        for (int i = 0; i < 500; i++) {
            x.moves(-1);
        }
        Due.due("40 five hundred", x.status(0), 500);
        Due.due("40 five hundred in all", x.status(-1), 500);
    }
}
