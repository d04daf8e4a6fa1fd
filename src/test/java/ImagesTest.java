/** Promises 36 to 40: images, count, status. */
public final class ImagesTest {
    public static void main(String[] args) {
        image();
        anew();
        tear();
        count();
        status();
        Due.end();
    }

    /** Promises 36 and 37. */
    private static void image() {
        SlipWall x = new SlipWall();
        Due.due("37 nothing is kept", x.undo(), Due.NONE);
        x.slip(3);
        x.slip(-1);
        x.person(0);
        x.wants(0, 9, 5);
        x.minutes(1);
        x.stick(1, 2, 1);
        Due.due("36 kept", x.image(), 1);
        x.slip(4);
        x.person(1);
        x.moves(9);
        x.minutes(3);
        x.stick(1, 2, 0);
        x.stick(0, 0, 4);
        x.stick(0, 1, 40);
        x.wants(0, 9, 0);
        x.out(0, 1);
        x.turn(0, 4);
        x.feed(0, 4);
        x.sheet(0, 8, 1);
        x.write(0, 0, 9);
        for (int i = 0; i < 2; i++) {
            Due.due("37 slips", x.undo(), 2);
            Due.due("37 people", x.count(1), 1);
            Due.due("37 moves", x.now(1), 3);
            Due.due("37 minute", x.now(0), 1);
            Due.due("37 in", x.slipOf(0, 0), 0);
            Due.due("37 moved", x.slipOf(0, 1), 1);
            Due.due("37 fixed", x.now(4), 2);
            Due.due("37 wants", x.wants(0, 9, 1), 5);
            Due.due("37 out", x.of(0, 1), 0);
            Due.due("37 kind", x.of(0, 0), 0);
            Due.due("37 the tape stays", x.count(2), 4);
            Due.due("37 sheets stay", x.write(0, 0, 9), 9);
            x.minutes(50);
        }
        Due.due("37 findings stay", x.status(3), 1);
        x.slip(0);
        x.image();
        x.slip(0);
        Due.due("37 the latest", x.undo(), 3);
    }

    /** Slips and people that come after undo() are new ones. */
    private static void anew() {
        SlipWall x = new SlipWall();
        x.image();
        x.slip(4);
        x.stick(0, 1, 5);
        x.stick(0, 2, 1);
        x.person(3);
        x.out(0, 1);
        x.wants(0, 7, 5);
        Due.due("37 none", x.undo(), 0);
        x.slip(1);
        x.person(1);
        Due.due("3 new moved", x.slipOf(0, 1), 0);
        Due.due("3 new fixed", x.slipOf(0, 2), 0);
        Due.due("8 new out", x.of(0, 1), 0);
        Due.due("8 new wants", x.wants(0, 7, 0), 1);
    }

    /** Promise 38. */
    private static void tear() {
        SlipWall x = new SlipWall();
        Due.due("38 nothing", x.tear(), 0);
        x.image();
        x.image();
        Due.due("38 something", x.tear(), 1);
        Due.due("38 nothing again", x.tear(), 0);
        Due.due("38 none", x.undo(), Due.NONE);
    }

    /** Promise 39. */
    private static void count() {
        SlipWall x = new SlipWall();
        x.slip(-1);
        x.slip(0);
        x.slip(-1);
        x.person(0);
        x.feed(0, 4);
        Due.due("39 slips", x.count(0), 3);
        Due.due("39 people", x.count(1), 1);
        Due.due("39 bytes", x.count(2), 4);
        Due.due("39 floor", x.count(3), 2);
        Due.due("39 above", x.count(4), Due.BEYOND);
        Due.due("39 below", x.count(-1), Due.BEYOND);
    }

    /** Promise 40. */
    private static void status() {
        SlipWall x = new SlipWall();
        x.moves(100);
        for (int i = 0; i < 8; i++) {
            x.person(2);
        }
        x.as(0, 1);
        x.as(1, 3);
        x.as(1, 4);
        x.undo();
        x.write(2, 0, 0);
        x.sheet(2, 8, -1);
        x.image();
        x.undo();
        x.wall();
        int[] due = {1, 2, 3, 1, 0, 1, 1};
        for (int i = 0; i < 7; i++) {
            Due.due("40 " + i, x.status(i), due[i]);
        }
        Due.due("40 all", x.status(-1), 9);
        Due.due("40 above", x.status(7), Due.BEYOND);
        Due.due("40 counted from then on", x.status(0), 2);
        Due.due("40 below", x.status(-2), Due.BEYOND);
        Due.due("40 all then", x.status(-1), 11);
    }
}
