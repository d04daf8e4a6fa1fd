/** Promises 30 to 35: sheets. */
public final class SheetsTest {
    public static void main(String[] args) {
        sheet();
        write();
        copy();
        lays();
        book();
        read();
        Due.end();
    }

    /** Promise 30. */
    private static void sheet() {
        SlipWall x = new SlipWall();
        Due.due("30 above", x.sheet(4, 8, 1), Due.BEYOND);
        Due.due("30 below", x.sheet(-1, 8, 1), Due.BEYOND);
        Due.due("30 bits", x.sheet(0, 32, 1), Due.BEYOND);
        Due.due("30 bits come before the size", x.sheet(0, 1, -1), Due.BEYOND);
        Due.due("30 the sheet comes before the size", x.sheet(4, 8, -1), Due.BEYOND);
        Due.due("30 size", x.sheet(0, 8, -1), Due.SIZE);
        Due.due("30 size with bits 0", x.sheet(0, 0, -1), Due.SIZE);
        Due.due("30 too many", x.sheet(0, 8, 41), Due.BEYOND);
        Due.due("30 too many with bits 0", x.sheet(0, 0, 41), Due.BEYOND);
        Due.due("30 still missing", x.write(0, 0, 0), Due.MISSING);
        Due.due("30 forty", x.sheet(3, 64, 40), 40);
        Due.due("30 a number", x.write(3, 39, 7), 0);
        Due.due("30 again", x.sheet(3, 16, 40), 40);
        Due.due("30 all 0", x.write(3, 39, 7), 0);
        Due.due("30 missing", x.sheet(3, 0, 40), 0);
        Due.due("30 it is", x.write(3, 0, 7), Due.MISSING);
        Due.due("30 none of them", x.sheet(3, 8, 0), 0);
        Due.due("30 empty but there", x.write(3, 0, 7), Due.BEYOND);
    }

    /** Promise 31. */
    private static void write() {
        SlipWall x = new SlipWall();
        Due.due("31 above", x.write(4, 0, 0), Due.BEYOND);
        Due.due("31 below", x.write(-1, 0, 0), Due.BEYOND);
        Due.due("31 missing comes before the number", x.write(0, 99, 0), Due.MISSING);
        x.sheet(0, 8, 2);
        x.sheet(1, 16, 2);
        x.sheet(2, 64, 2);
        Due.due("31 no such number", x.write(0, 2, 0), Due.BEYOND);
        Due.due("31 none below 0", x.write(0, -1, 0), Due.BEYOND);
        long[][] kept = {{127, -128, -1, 0, 52}, {127, 128, 255, 256, 0x1234},
            {127, 128, 255, 256, 0x5678_0000_1234L}};
        long[] written = {127, 128, 255, 256, 0x5678_0000_1234L};
        for (int s = 0; s < 3; s++) {
            long was = 0;
            for (int i = 0; i < written.length; i++) {
                Due.due("31 sheet " + s, x.write(s, 1, written[i]), was);
                was = kept[s][i];
            }
            Due.due("31 the last, sheet " + s, x.write(s, 1, Long.MIN_VALUE), was);
            Due.due("31 the other number, sheet " + s, x.write(s, 0, 0), 0);
        }
        Due.due("31 64 bits", x.write(2, 1, Long.MAX_VALUE), Long.MIN_VALUE);
        x.write(1, 1, 32768);
        Due.due("31 16 bits bear a sign", x.write(1, 1, 65535), -32768);
        Due.due("31 16 bits, all set", x.write(1, 1, 0), -1);
    }

    private static void fill(SlipWall x, int s, int n) {
        for (int i = 0; i < n; i++) {
            x.write(s, i, 10 * s + i);
        }
    }

    private static void numbers(String what, SlipWall x, int s, long... due) {
        for (int i = 0; i < due.length; i++) {
            Due.due(what + " " + i, x.write(s, i, due[i]), due[i]);
        }
    }

    /** Promise 32. */
    private static void copy() {
        SlipWall x = new SlipWall();
        x.sheet(0, 8, 5);
        x.sheet(1, 8, 3);
        x.sheet(2, 16, 5);
        fill(x, 0, 5);
        fill(x, 1, 3);
        Due.due("32 sheet above", x.copy(4, 0, 3, 0, 1), Due.BEYOND);
        Due.due("32 other above", x.copy(3, 0, 4, 0, 1), Due.BEYOND);
        Due.due("32 sheet below", x.copy(-1, 0, 0, 0, 1), Due.BEYOND);
        Due.due("32 missing", x.copy(3, 0, 0, 0, -1), Due.MISSING);
        Due.due("32 other missing", x.copy(2, 0, 3, 0, 9), Due.MISSING);
        Due.due("32 other bits", x.copy(0, -1, 2, 0, 1), Due.KIND);
        Due.due("32 too many there", x.copy(0, 0, 1, 0, 4), Due.BEYOND);
        Due.due("32 too many here", x.copy(1, 1, 0, 0, 3), Due.BEYOND);
        Due.due("32 from below", x.copy(0, -1, 1, 0, 1), Due.BEYOND);
        Due.due("32 to below", x.copy(0, 0, 1, -1, 1), Due.BEYOND);
        Due.due("32 n below", x.copy(0, 0, 1, 0, -1), Due.BEYOND);
        int most = Integer.MAX_VALUE;
        Due.due("32 no wrap-around, from", x.copy(0, most, 1, 0, 1), Due.BEYOND);
        Due.due("32 no wrap-around, to", x.copy(0, 0, 1, most, most), Due.BEYOND);
        numbers("32 nothing came", x, 1, 10, 11, 12);
        Due.due("32 none", x.copy(0, 5, 1, 3, 0), 0);
        Due.due("32 two", x.copy(0, 3, 1, 1, 2), 2);
        numbers("32 two came", x, 1, 10, 3, 4);
        Due.due("32 up", x.copy(0, 0, 0, 1, 4), 4);
        numbers("32 as they all were, up", x, 0, 0, 0, 1, 2, 3);
        Due.due("32 down", x.copy(0, 2, 0, 1, 3), 3);
        numbers("32 as they all were, down", x, 0, 0, 1, 2, 3, 3);
    }

    /** Promise 33. */
    private static void lays() {
        SlipWall x = new SlipWall();
        Due.due("33 sheet", x.lays(4, 0), Due.BEYOND);
        Due.due("33 missing comes before the person", x.lays(0, 0), Due.MISSING);
        x.sheet(0, 64, 12);
        Due.due("33 person", x.lays(0, 0), Due.BEYOND);
        x.person(0);
        x.person(0);
        long[] row = {5, -1, 6, 0, 1L << 32, 2, 3, 4, 5, 1, 2, 2};
        for (int i = 0; i < 12; i++) {
            x.write(0, i, row[i]);
        }
        Due.due("33 seven came", x.lays(0, 1), 7);
        int[] due = {5, 1, 2, 0, 4, 2, 3, 4, 5, 1};
        for (int i = 0; i < 10; i++) {
            Due.due("33 wants " + i, x.wants(1, i, 0), due[i]);
            Due.due("33 the other one " + i, x.wants(0, i, 0), i % 6);
        }
        Due.due("33 person above", x.lays(0, 2), Due.BEYOND);
        Due.due("33 person below", x.lays(0, -1), Due.BEYOND);
    }

    /** Promise 34. */
    private static void book() {
        SlipWall x = new SlipWall();
        Due.due("34 sheet", x.book(-1, 0), Due.BEYOND);
        Due.due("34 missing comes before the slip", x.book(0, 0), Due.MISSING);
        x.sheet(0, 8, 5);
        x.sheet(1, 16, 5);
        x.sheet(2, 64, 5);
        Due.due("34 slip", x.book(0, 0), Due.BEYOND);
        x.slip(-1);
        x.slip(-1);
        x.person(0);
        x.person(2);
        x.wants(1, 0, 5);
        for (int s = 0; s < 3; s++) {
            // She takes slip 0 in MINUTE 0; the shy one never touches what was MOVED, so slip 1 goes in MINUTE 1.
            Due.due("34 five", x.book(s, 0), 5);
            numbers("34 slip 0", x, s, -1, 0, 0, 0, 0);
            Due.due("34 five", x.book(s, 1), 5);
            numbers("34 slip 1", x, s, -1, -1, 1, 1, 1);
        }
        Due.due("34 nothing changes", x.now(0), 0);
        Due.due("34 slip above", x.book(0, 2), Due.BEYOND);
        Due.due("34 slip below", x.book(0, -1), Due.BEYOND);
    }

    /** Promise 35. */
    private static void read() {
        SlipWall x = new SlipWall();
        Due.due("35 sheet", x.read(4, 0, 0), Due.BEYOND);
        Due.due("35 missing comes before the slip", x.read(0, 0, 0), Due.MISSING);
        x.sheet(0, 8, 3);
        Due.due("35 slip", x.read(0, 0, 0), Due.BEYOND);
        x.slip(-1);
        Due.due("35 person", x.read(0, 0, 0), Due.BEYOND);
        x.person(0);
        x.write(0, 0, -1);
        x.write(0, 1, 4);
        x.write(0, 2, 4);
        Due.due("35 any kind, one group", x.read(0, 0, 0), 6);
        x.stick(0, 1, 1);
        Due.due("35 neither the shy nor the quiet", x.read(0, 0, 0), 4);
        x.stick(0, 1, 3);
        Due.due("35 the boss alone", x.read(0, 0, 0), 1);
        x.write(0, 1, -1);
        x.write(0, 2, -1);
        Due.due("35 all but the boss", x.read(0, 0, 0), 30);
        x.stick(0, 1, 1);
        x.write(0, 2, 2);
        Due.due("35 the quiet one alone waits for an odd minute", x.read(0, 0, 0), 1);
        x.write(0, 0, 2);
        Due.due("35 it is not there", x.read(0, 0, 0), 0);
        x.stick(0, 0, 2);
        x.write(0, 0, 2 + 256);
        x.write(0, 1, 2);
        Due.due("35 any kind that wants it there, and the shy one", x.read(0, 0, 0), 6 + 5);
        Due.due("35 nothing changes", x.of(0, 0) + x.now(0), 0);
        Due.due("35 slip below", x.read(0, -1, 0), Due.BEYOND);
        Due.due("35 person below", x.read(0, 0, -1), Due.BEYOND);
    }
}
