import java.lang.reflect.Method;
import java.util.ArrayList;
import java.util.Arrays;
import java.util.List;

/**
 * Every call with every mixture of chosen edge values (fewer of them for calls of three arguments and of five), on walls
 * that are empty, small and full: the answer, status() and most of what the wall is like then are those of the model.
 */
public final class GridTest {
    private static final long[] EDGES = {Integer.MIN_VALUE, -2, -1, 0, 1, 2, 3, 4, 5, 6, 7, 8, 9, 10, 16, 40, 41, 64, 100,
        101, 200, 201, 1000, Integer.MAX_VALUE};
    /** For calls of three arguments and of five, or the grid would grow too large. */
    private static final long[] FEW = {Integer.MIN_VALUE, -1, 0, 1, 2, 3, 5, 6, 8, 9, 10, 40, 41, 64, 200, 201,
        Integer.MAX_VALUE};
    private static final long[] FEWER = {-1, 0, 1, 3, 4, 40, Integer.MAX_VALUE};
    private static final String[] WALLS = {"",
        "slip(3) person(0)",
        Run.SOME,
        "person(3) person(1) slip(-1) slip(5) slip(2) wants(1,0,4) stick(1,1,999) moves(99) sheet(0,64,40) sheet(1,64,40)"
            + " sheet(2,16,1) sheet(3,8,2) book(0,0)",
        Run.TEN_SLIPS + "person(0) person(1) person(2) person(3) person(4) person(5) wants(0,9,5) wants(1,9,4) wants(2,8,3)"
            + " wants(3,0,2) wants(4,1,2) out(2,1) minutes(9) sheet(2,8,40) book(2,9) image() minutes(3) "
            + "feed(1936287860,4) ".repeat(30)};

    private static final String THEN = "status(-1) now(0) now(1) now(4) now(5) group(-1) group(0) group(5) count(0) count(1)"
        + " count(2) of(0,0) of(0,1) of(0,2) write(0,0,0) undo() count(0) now(0)";

    private record Told(String name, long[] arguments) {
        static List<Told> of(String calls) {
            List<Told> told = new ArrayList<>();
            for (String call : calls.isBlank() ? new String[0] : calls.trim().split("\\s+")) {
                told.add(new Told(Calls.name(call), Calls.arguments(call)));
            }
            return told;
        }
    }

    private final String wall;
    private final List<Told> before;
    private final List<Told> then = Told.of(THEN);

    private GridTest(String wall) {
        this.wall = wall;
        this.before = Told.of(wall);
    }

    public static void main(String[] args) {
        for (String wall : WALLS) {
            GridTest test = new GridTest(wall);
            for (Method m : Calls.all()) {
                test.grid(m.getName(), new long[m.getParameterCount()], 0);
            }
        }
        Due.end();
    }

    private void grid(String name, long[] a, int next) {
        if (Due.isWrong()) {
            return;
        }
        if (next == a.length) {
            compare(name, a);
            return;
        }
        for (long v : a.length > 3 ? FEWER : a.length == 3 ? FEW : EDGES) {
            a[next] = v;
            grid(name, a, next + 1);
        }
    }

    private void compare(String name, long[] a) {
        SlipWall program = new SlipWall();
        Model model = new Model();
        for (Told call : before) {
            Calls.make(program, call.name(), call.arguments());
            model.call(call.name(), call.arguments());
        }
        due(name, a, program, model, new Told(name, a));
        for (Told call : then) {
            due(name, a, program, model, call);
        }
    }

    private void due(String name, long[] a, SlipWall program, Model model, Told call) {
        long got = Calls.make(program, call.name(), call.arguments());
        long want = model.call(call.name(), call.arguments());
        // The label is dear, and there are millions.
        String label = got == want ? "" : wall + " " + name + Arrays.toString(a) + ", then " + call.name()
            + Arrays.toString(call.arguments());
        Due.due(label, got, want);
    }
}
