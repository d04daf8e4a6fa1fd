/** The edges of promises 30 to 35: SHEETS. */
public final class SheetsEdgesTest {
    public static void main(String[] args) {
        sheet();
        sheetSizes();
        write();
        lowestBits();
        copy();
        copyPlaces();
        lays();
        book();
        read();
        Due.end();
    }

    /** Promise 30: SHEETS 0 to 3; 8, 16 or 64 bits, or 0. */
    private static void sheet() {
        Run.of("30 the first sheet and the last", "sheet(0,8,1)=1 sheet(3,8,1)=1 write(0,0,1)=0 write(3,0,1)=0");
        Run.each("30 no such sheet", "", "BEYOND", "sheet(-1,8,1)", "sheet(4,8,1)", "sheet(MIN,8,1)", "sheet(MAX,8,1)",
            "sheet(4,0,0)");
        Run.of("30 8 bits", "sheet(0,8,1)=1 write(0,0,256)=0 write(0,0,0)=0");
        Run.of("30 16 bits", "sheet(0,16,1)=1 write(0,0,256)=0 write(0,0,65536)=256 write(0,0,0)=0");
        Run.of("30 64 bits", "sheet(0,64,1)=1 write(0,0,65536)=0 write(0,0,0)=65536");
        Run.each("30 other bits", Run.SOME, "BEYOND", "sheet(0,1,1)", "sheet(0,7,1)", "sheet(0,9,1)", "sheet(0,15,1)",
            "sheet(0,17,1)", "sheet(0,32,1)", "sheet(0,63,1)", "sheet(0,65,1)", "sheet(0,-1,1)", "sheet(0,-8,1)",
            "sheet(0,128,1)", "sheet(0,MIN,1)", "sheet(0,MAX,1)");
        Run.of("30 bits 0: it is MISSING", "sheet(0,8,3) sheet(0,0,3)=0 write(0,0,0)=MISSING");
        Run.of("30 bits 0 of one that is MISSING", "sheet(0,0,0)=0 write(0,0,0)=MISSING sheet(0,0,40)=0");
        Run.of("30 there again, all are 0", "sheet(0,8,3) write(0,1,9) sheet(0,0,0)=0 sheet(0,8,3)=3 write(0,1,0)=0");
        Run.of("30 the same again, all are 0", "sheet(0,8,3) write(0,1,9) sheet(0,8,3)=3 write(0,1,0)=0");
        Run.of("30 the same again, the first is 0", "sheet(0,8,3) write(0,0,9) sheet(0,8,3)=3 write(0,0,0)=0");
        Run.of("30 of other bits, the first is 0", "sheet(0,8,3) write(0,0,9) sheet(0,64,3)=3 write(0,0,0)=0");
        Run.of("30 shorter, then longer, all are 0", "sheet(0,8,40) write(0,39,9) sheet(0,8,1)=1 sheet(0,8,40)=40 write(0,39,0)=0");
        Run.of("30 the others stay", "sheet(0,8,1) sheet(1,8,1) write(0,0,5) write(1,0,6) sheet(0,64,2)=2 write(1,0,0)=6");
    }

    /** Promise 30: n 0 to 40; SIZE below, BEYOND above. */
    private static void sheetSizes() {
        for (String bits : new String[] {"8", "16", "64"}) {
            Run.of("30 no numbers", "sheet(0," + bits + ",0)=0 write(0,0,0)=BEYOND");
            Run.of("30 one number", "sheet(0," + bits + ",1)=1 write(0,0,7)=0 write(0,0,0)=7 write(0,1,0)=BEYOND");
            Run.of("30 forty numbers", "sheet(0," + bits + ",40)=40 write(0,39,7)=0 write(0,39,0)=7 write(0,40,0)=BEYOND");
        }
        for (String bits : new String[] {"0", "8", "16", "64"}) {
            Run.each("30 n: below, bits " + bits, Run.SOME, "SIZE", "sheet(0," + bits + ",-1)", "sheet(0," + bits + ",MIN)");
            Run.each("30 n: above, bits " + bits, Run.SOME, "BEYOND", "sheet(0," + bits + ",41)", "sheet(0," + bits + ",MAX)");
            Run.each("30 no such sheet is asked before SIZE", Run.SOME, "BEYOND", "sheet(4," + bits + ",-1)",
                "sheet(-1," + bits + ",-1)");
        }
        Run.each("30 other bits are asked before SIZE", Run.SOME, "BEYOND", "sheet(0,1,-1)", "sheet(0,32,MIN)", "sheet(0,-1,-1)");
        Run.of("30 a refused call leaves the sheet",
            Run.SOME + "sheet(0,16,41)=BEYOND sheet(0,16,-1)=SIZE sheet(0,17,2)=BEYOND sheet(0,0,-1)=SIZE write(0,1,0)=5");
        Run.of("30 a refused call leaves it MISSING", Run.SOME + "sheet(3,8,41)=BEYOND sheet(3,8,-1)=SIZE write(3,0,0)=MISSING");
    }

    /** Promise 31. */
    private static void write() {
        Run.each("31 no such sheet", Run.SOME, "BEYOND", "write(-1,0,0)", "write(4,0,0)", "write(MIN,0,0)", "write(MAX,0,0)");
        Run.each("31 MISSING", Run.SOME, "MISSING", "write(3,0,0)");
        Run.each("31 no such sheet is asked first", "", "BEYOND", "write(4,0,0)", "write(-1,-1,0)");
        Run.each("31 MISSING is asked before the number", Run.SOME, "MISSING", "write(3,-1,0)", "write(3,40,0)", "write(3,MAX,0)",
            "write(3,MIN,0)");
        Run.of("31 the first number and the last", "sheet(0,8,3) write(0,0,1)=0 write(0,2,3)=0 write(0,0,0)=1 write(0,2,0)=3");
        Run.each("31 no such number", "sheet(0,8,3)", "BEYOND", "write(0,-1,0)", "write(0,3,0)", "write(0,39,0)", "write(0,40,0)",
            "write(0,MIN,0)", "write(0,MAX,0)");
        Run.each("31 no number at all", "sheet(0,8,0)", "BEYOND", "write(0,0,0)", "write(0,-1,0)");
        Run.of("31 beyond a shorter sheet", "sheet(0,8,40) write(0,39,9) sheet(0,8,39) write(0,39,9)=BEYOND write(0,38,9)=0");
        Run.of("31 a refused call writes nothing", "sheet(0,8,3) write(0,2,7) write(0,3,9)=BEYOND write(0,-1,9)=BEYOND write(0,2,0)=7");
        Run.of("31 a finding's number may stand in a sheet", "sheet(0,64,1) write(0,0,-1000000001) write(0,0,0)=-1000000001 status(-1)=0");
    }

    /** Promise 31: v's lowest bits. */
    private static void lowestBits() {
        bits(8, 0, 0);
        bits(8, 127, 127);
        bits(8, 128, -128);
        bits(8, 255, -1);
        bits(8, 256, 0);
        bits(8, -1, -1);
        bits(8, -128, -128);
        bits(8, -129, 127);
        bits(8, 0x1_0000_0005L, 5);
        bits(8, Long.MAX_VALUE, -1);
        bits(8, Long.MIN_VALUE, 0);
        bits(16, 127, 127);
        bits(16, 128, 128);
        bits(16, 32767, 32767);
        bits(16, 32768, -32768);
        bits(16, 65535, -1);
        bits(16, 65536, 0);
        bits(16, -32768, -32768);
        bits(16, -32769, 32767);
        bits(16, 0x1_0000_0005L, 5);
        bits(16, Long.MAX_VALUE, -1);
        bits(16, Long.MIN_VALUE, 0);
        bits(64, 128, 128);
        bits(64, 32768, 32768);
        bits(64, 0x8000_0000L, 0x8000_0000L);
        bits(64, 0x1_0000_0005L, 0x1_0000_0005L);
        bits(64, -1, -1);
        bits(64, Long.MAX_VALUE, Long.MAX_VALUE);
        bits(64, Long.MIN_VALUE, Long.MIN_VALUE);
    }

    private static void bits(int bits, long v, long kept) {
        Run.of("31 " + v + " in " + bits + " bits", "sheet(0," + bits + ",1) write(0,0," + v + ")=0 write(0,0,0)=" + kept);
    }

    /** Promise 32: what is asked first. Sheets 0 and 1 are of 8 bits, 2 of 16, 3 is MISSING. */
    private static void copy() {
        String some = "sheet(0,8,3) write(0,0,1) write(0,1,2) write(0,2,3) sheet(1,8,2) write(1,0,8) write(1,1,9)"
            + " sheet(2,16,3) write(2,0,300) ";
        Run.each("32 no such sheet", some, "BEYOND", "copy(-1,0,0,0,1)", "copy(4,0,0,0,1)", "copy(0,0,-1,0,1)", "copy(0,0,4,0,1)",
            "copy(MIN,0,0,0,1)", "copy(MAX,0,0,0,1)", "copy(0,0,MIN,0,1)", "copy(0,0,MAX,0,1)", "copy(4,0,4,0,0)");
        Run.each("32 no such sheet is asked before MISSING", some, "BEYOND", "copy(3,0,4,0,1)", "copy(4,0,3,0,1)",
            "copy(3,0,-1,0,1)", "copy(-1,0,3,0,1)");
        Run.each("32 no such sheet is asked before KIND", some, "BEYOND", "copy(4,0,2,0,1)", "copy(2,0,4,0,1)");
        Run.each("32 MISSING", some, "MISSING", "copy(3,0,0,0,1)", "copy(0,0,3,0,1)", "copy(3,0,3,0,1)", "copy(3,0,3,0,0)");
        Run.each("32 MISSING is asked before KIND", some, "MISSING", "copy(3,0,2,0,1)", "copy(2,0,3,0,1)");
        Run.each("32 MISSING is asked before BEYOND", some, "MISSING", "copy(3,-1,0,0,1)", "copy(3,0,0,-1,1)", "copy(0,0,3,0,-1)",
            "copy(0,9,3,0,1)", "copy(0,0,3,0,41)");
        Run.each("32 KIND", some, "KIND", "copy(0,0,2,0,1)", "copy(2,0,0,0,1)", "copy(1,0,2,0,0)");
        Run.each("32 KIND is asked before BEYOND", some, "KIND", "copy(0,-1,2,0,1)", "copy(0,0,2,-1,1)", "copy(0,0,2,0,-1)",
            "copy(2,3,0,0,1)", "copy(0,0,2,0,41)", "copy(2,0,1,0,3)");
        Run.each("32 KIND, 8 and 64, 16 and 64", "sheet(0,8,1) sheet(1,16,1) sheet(2,64,1)", "KIND", "copy(0,0,2,0,1)",
            "copy(2,0,0,0,1)", "copy(1,0,2,0,1)", "copy(2,0,1,0,1)");
        Run.each("32 from, to or n below 0", some, "BEYOND", "copy(0,-1,1,0,1)", "copy(0,0,1,-1,1)", "copy(0,0,1,0,-1)",
            "copy(0,-1,1,-1,-1)", "copy(0,MIN,1,0,1)", "copy(0,0,1,MIN,1)", "copy(0,0,1,0,MIN)", "copy(0,-1,1,0,0)",
            "copy(0,0,1,-1,0)", "copy(0,3,1,0,-1)", "copy(0,0,1,2,-1)");
        Run.each("32 one has not so many", some, "BEYOND", "copy(0,0,1,0,3)", "copy(0,2,1,0,2)", "copy(0,3,1,0,1)",
            "copy(1,0,0,0,3)", "copy(1,0,0,2,2)", "copy(1,0,0,3,1)", "copy(1,1,0,0,2)", "copy(0,0,0,1,3)", "copy(0,1,0,0,3)");
        Run.each("32 no wrap-around", some, "BEYOND", "copy(0,0,1,0,MAX)", "copy(0,MAX,1,0,1)", "copy(0,0,1,MAX,1)",
            "copy(0,MAX,1,0,MAX)", "copy(0,1,1,0,MAX)", "copy(0,0,1,1,MAX)", "copy(0,MAX,1,MAX,MAX)", "copy(0,MAX,1,MAX,2)");
    }

    /** Promise 32: the first place and the last, none and all, and one sheet onto itself. */
    private static void copyPlaces() {
        String two = "sheet(0,8,3) write(0,0,1) write(0,1,2) write(0,2,3) sheet(1,8,2) write(1,0,8) write(1,1,9) ";
        Run.of("32 none, from the first", two + "copy(0,0,1,0,0)=0 write(1,0,0)=8");
        Run.of("32 none, from behind the last", two + "copy(0,3,1,2,0)=0 write(1,1,0)=9");
        Run.each("32 none, but from still farther", two, "BEYOND", "copy(0,4,1,0,0)", "copy(0,0,1,3,0)", "copy(0,MAX,1,0,0)");
        Run.of("32 the last to the last", two + "copy(0,2,1,1,1)=1 write(1,1,0)=3 write(1,0,0)=8");
        Run.of("32 the first to the first", two + "copy(0,0,1,0,1)=1 write(1,0,0)=1 write(1,1,0)=9");
        Run.of("32 as many as it has", two + "copy(1,0,0,1,2)=2 write(0,0,0)=1 write(0,1,0)=8 write(0,2,0)=9");
        Run.of("32 all onto themselves", two + "copy(0,0,0,0,3)=3 write(0,0,0)=1 write(0,1,0)=2 write(0,2,0)=3");
        Run.of("32 up, as they all were", two + "copy(0,0,0,1,2)=2 write(0,0,0)=1 write(0,1,0)=1 write(0,2,0)=2");
        Run.of("32 down, as they all were", two + "copy(0,1,0,0,2)=2 write(0,0,0)=2 write(0,1,0)=3 write(0,2,0)=3");
        Run.of("32 none of none", "sheet(0,16,0) sheet(1,16,0) copy(0,0,1,0,0)=0 copy(0,0,1,0,1)=BEYOND copy(0,1,1,0,0)=BEYOND");
        Run.of("32 forty", "sheet(0,64,40) sheet(1,64,40) write(0,39,MIN) write(0,0,MAX) copy(0,0,1,0,40)=40 write(1,39,0)=MIN"
            + " write(1,0,0)=MAX copy(0,0,1,0,41)=BEYOND");
        Run.of("32 those that gave stay", two + "copy(0,0,1,0,2)=2 write(0,0,0)=1 write(0,1,0)=2");
    }

    /** Promise 33: GROUPS 0 to 5, SLIPS 0 to 9. */
    private static void lays() {
        Run.each("33 no such sheet", Run.SOME, "BEYOND", "lays(-1,0)", "lays(4,0)", "lays(MIN,0)", "lays(MAX,0)");
        Run.each("33 no such sheet is asked first", "", "BEYOND", "lays(4,0)", "lays(-1,9)");
        Run.each("33 MISSING", Run.SOME, "MISSING", "lays(3,0)");
        Run.each("33 MISSING is asked before the person", Run.SOME, "MISSING", "lays(3,-1)", "lays(3,2)", "lays(3,MAX)");
        Run.each("33 no such one", Run.SOME, "BEYOND", "lays(0,-1)", "lays(0,2)", "lays(0,MIN)", "lays(0,MAX)", "lays(1,2)");
        Run.each("33 nobody there", "sheet(0,8,3)", "BEYOND", "lays(0,0)");
        Run.of("33 the sixth", Run.SIX_PEOPLE + "sheet(0,8,1) write(0,0,4) lays(0,5)=1 wants(5,0,0)=4 lays(0,6)=BEYOND");
        Run.of("33 no numbers", "person(0) sheet(0,8,0) lays(0,0)=0 wants(0,0,0)=0");
        Run.of("33 0 and 5 are GROUPS", "person(0) sheet(0,8,2) write(0,0,5) write(0,1,0) lays(0,0)=2 wants(0,0,0)=5 wants(0,1,0)=0");
        Run.of("33 -1 and 6 are none", "person(0) sheet(0,8,3) write(0,0,-1) write(0,1,6) write(0,2,4) lays(0,0)=1"
            + " wants(0,0,0)=0 wants(0,1,0)=1 wants(0,2,0)=4");
        Run.of("33 no wrap-around of a wide number", "person(0) sheet(0,64,4) write(0,0,4294967301) write(0,1,-4294967291)"
            + " write(0,2,MIN) write(0,3,MAX) lays(0,0)=0 wants(0,0,0)=0 wants(0,1,0)=1 wants(0,2,0)=2 wants(0,3,0)=3");
        Run.of("33 a number cut to 8 bits is a GROUP", "person(0) sheet(0,8,1) write(0,0,261) lays(0,0)=1 wants(0,0,0)=5");
        Run.of("33 the tenth number", "person(0) sheet(0,8,10) write(0,9,5) lays(0,0)=10 wants(0,9,0)=5 wants(0,8,0)=0");
        Run.of("33 the 11th stands for none", "person(0) person(0) sheet(0,8,11) write(0,10,5) lays(0,0)=10 wants(1,0,0)=0");
        Run.of("33 forty numbers, ten come", "person(0) person(0) sheet(0,64,40) lays(0,0)=10 wants(1,9,0)=3 wants(0,9,0)=0");
        Run.of("33 slips that aren't there", "person(0) sheet(0,8,2) write(0,1,5) lays(0,0)=2 slip(0) slip(5) of(0,2)=3");
        Run.of("33 what it WANTS of the others stays", "person(0) sheet(0,8,2) lays(0,0)=2 wants(0,2,0)=2");
    }

    /** Promise 34. */
    private static void book() {
        String quarrel = "slip(-1) person(0) person(0) wants(1,0,5) ";
        Run.each("34 no such sheet", Run.SOME, "BEYOND", "book(-1,0)", "book(4,0)", "book(MIN,0)", "book(MAX,0)");
        Run.each("34 no such sheet is asked first", "", "BEYOND", "book(4,0)", "book(-1,9)");
        Run.each("34 MISSING", Run.SOME, "MISSING", "book(3,0)");
        Run.each("34 MISSING is asked before the slip", Run.SOME, "MISSING", "book(3,-1)", "book(3,3)", "book(3,MAX)");
        Run.each("34 no such slip", Run.SOME, "BEYOND", "book(0,-1)", "book(0,3)", "book(0,MIN)", "book(0,MAX)", "book(1,3)");
        Run.each("34 no slip there", "sheet(0,8,3)", "BEYOND", "book(0,0)");
        Run.of("34 the tenth slip", Run.TEN_SLIPS + "stick(9,0,5) sheet(0,8,1) book(0,9)=1 write(0,0,0)=5 book(0,10)=BEYOND");
        Run.of("34 no numbers", quarrel + "sheet(0,8,0) book(0,0)=0");
        Run.of("34 one number: ON 0 MINUTES", quarrel + "sheet(0,8,1) write(0,0,9) book(0,0)=1 write(0,0,0)=-1");
        for (String bits : new String[] {"8", "16", "64"}) {
            Run.of("34 THE FLOOR in " + bits + " bits, then to and fro", quarrel + "sheet(0," + bits + ",5) book(0,0)=5"
                + " write(0,0,0)=-1 write(0,1,0)=0 write(0,2,0)=5 write(0,3,0)=0 write(0,4,0)=0");
        }
        Run.of("34 forty numbers: ON 39 MINUTES at last", quarrel + "moves(39) sheet(0,8,40) book(0,0)=40 write(0,38,0)=5 write(0,39,0)=0");
        Run.of("34 from now on", quarrel + "minutes(2) sheet(0,8,2) book(0,0)=2 write(0,0,0)=5 write(0,1,0)=0");
        Run.of("34 all else stays", quarrel + "sheet(0,8,40) book(0,0)=40 now(0)=0 slipOf(0,0)=-1 slipOf(0,1)=0");
    }

    /** Promise 35. */
    private static void read() {
        String one = "slip(-1) person(0) sheet(0,8,2) write(0,0,-1) ";
        Run.each("35 no such sheet", Run.SOME, "BEYOND", "read(-1,0,0)", "read(4,0,0)", "read(MIN,0,0)", "read(MAX,0,0)");
        Run.each("35 no such sheet is asked first", "", "BEYOND", "read(4,0,0)", "read(-1,9,9)");
        Run.each("35 MISSING", Run.SOME, "MISSING", "read(3,0,0)");
        Run.each("35 MISSING is asked before slip and person", Run.SOME, "MISSING", "read(3,-1,0)", "read(3,3,0)", "read(3,0,-1)",
            "read(3,0,2)", "read(3,MAX,MAX)");
        Run.each("35 no such slip", Run.SOME, "BEYOND", "read(0,-1,0)", "read(0,3,0)", "read(0,MIN,0)", "read(0,MAX,0)",
            "read(1,3,0)");
        Run.each("35 no such one", Run.SOME, "BEYOND", "read(0,0,-1)", "read(0,0,2)", "read(0,0,MIN)", "read(0,0,MAX)",
            "read(1,0,2)");
        Run.each("35 no slip there", "person(0) sheet(0,8,0)", "BEYOND", "read(0,0,0)");
        Run.each("35 nobody there", "slip(0) sheet(0,8,0)", "BEYOND", "read(0,0,0)");
        Run.of("35 the tenth slip, the sixth one",
            Run.TEN_SLIPS + Run.SIX_PEOPLE + "sheet(0,8,1) read(0,9,5)=36 read(0,10,5)=BEYOND read(0,9,6)=BEYOND");
        Run.of("35 no numbers: all pairs", "slip(3) person(0) sheet(0,8,0) read(0,0,0)=36");
        Run.of("35 as it is now: all pairs", "slip(3) person(0) sheet(0,8,1) write(0,0,3) read(0,0,0)=36");
        Run.of("35 as it is not now: none", "slip(3) person(0) sheet(0,8,1) write(0,0,4) read(0,0,0)=0");
        Run.of("35 the least GROUP", one + "write(0,1,0) read(0,0,0)=6");
        Run.of("35 the greatest GROUP", one + "write(0,1,5) read(0,0,0)=6");
        Run.of("35 no GROUP: none", one + "write(0,1,6) read(0,0,0)=0");
        Run.of("35 it stays on THE FLOOR: none", one + "write(0,1,-1) read(0,0,0)=0");
        Run.of("35 it stays on THE FLOOR, for all but the BOSS", one + "stick(0,1,3) write(0,1,-1) read(0,0,0)=30");
        Run.of("35 FIXED: all pairs", one + "stick(0,2,1) write(0,1,-1) read(0,0,0)=36");
        Run.of("35 OUT: all pairs", one + "out(0,1) write(0,1,-1) read(0,0,0)=36");
        Run.of("35 no wrap-around of a wide number", "slip(0) person(0) sheet(0,64,1) write(0,0,4294967296) read(0,0,0)=0"
            + " write(0,0,0) read(0,0,0)=36");
        Run.of("35 a number cut to 8 bits", "slip(0) person(0) sheet(0,8,1) write(0,0,256) read(0,0,0)=36");
        Run.of("35 THE FLOOR in 64 bits", "slip(-1) person(0) sheet(0,64,2) write(0,0,-1) write(0,1,3) read(0,0,0)=6");
        Run.of("35 a book of forty read by whom it was", "slip(-1) person(3) sheet(0,16,40) book(0,0)=40 read(0,0,0)=6");
        // Moved at once, and once more the last number: no pair does that.
        Run.of("35 the last of forty is another: none", "slip(-1) person(3) sheet(0,16,40) book(0,0)=40 write(0,39,5) read(0,0,0)=0");
    }
}
