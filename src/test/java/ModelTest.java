import java.lang.reflect.Method;
import java.util.ArrayList;
import java.util.Arrays;
import java.util.List;
import java.util.Random;

/** Runs of calls by a fixed seed, right and wrong ones, on the program and on the model: all answers are the same. */
public final class ModelTest {
    private static final int RUNS = 250;
    private static final int CALLS = 512;
    private static final int[] EDGES = {Integer.MIN_VALUE, -1000000001, -2, -1, 0, 1, 2, 4, 5, 6, 7, 8, 9, 10, 11, 16,
        20, 40, 41, 60, 61, 64, 99, 100, 101, 120, 200, 201, 999, 1000, 99999, 100000, Integer.MAX_VALUE};
    private static final String[] WORDS = {"slip", "slip", "slip", "floor", "fixed", "person", "loud", "shy", "boss",
        "pen", "quiet", "wants", "wants", "moves", "0", "1", "2", "3", "4", "5", "6", "99", "100", "007", ";", ";", ";",
        " ", "?", "slips", "fix"};
    private static final String[] ITEMS = {"slip 3", "slip floor fixed", "slip 0 fixed", "pen wants 1 2 3",
        "boss wants 5", "loud", "quiet wants 4 3 2 1 0", "shy", "person wants 2 2", "moves 7", "moves 20", "slip5"};

    public static void main(String[] args) {
        List<Method> face = new ArrayList<>();
        Calls.all().forEach(face::add);
        for (int run = 0; run < RUNS && !Due.isWrong(); run++) {
            new ModelTest(run, face).go();
        }
        Due.end();
    }

    private final int run;
    private final Random random;
    private final List<Method> face;
    private final SlipWall program = new SlipWall();
    private final Model model = new Model();
    private final List<String> log = new ArrayList<>();
    private int calls = 0;

    private ModelTest(int run, List<Method> face) {
        this.run = run;
        this.random = new Random(run);
        this.face = face;
    }

    private void go() {
        // Some runs begin with nearly nothing, most with a wall that has something to quarrel about.
        int slips = random.nextInt(11);
        int people = random.nextInt(7);
        for (int i = 0; i < slips; i++) {
            call("slip", random.nextInt(7) - 1);
        }
        for (int i = 0; i < people; i++) {
            call("person", random.nextInt(6));
            for (int k = 0; k < 4; k++) {
                call("wants", i, random.nextInt(10), random.nextInt(6));
            }
        }
        while (calls < CALLS && !Due.isWrong()) {
            if (random.nextInt(25) == 0) {
                text();
            } else {
                any();
            }
        }
        if (Due.isWrong()) {
            System.out.println("run " + run + ": " + log);
        }
    }

    private void text() {
        StringBuilder text = new StringBuilder();
        int parts = 1 + random.nextInt(4);
        for (int i = 0; i < parts; i++) {
            text.append(i > 0 ? ";" : "").append(random.nextInt(3) == 0 ? " " : "");
            text.append(ITEMS[random.nextInt(ITEMS.length)]);
        }
        for (int i = random.nextInt(3); i > 0; i--) {
            text.insert(random.nextInt(text.length() + 1), " " + WORDS[random.nextInt(WORDS.length)] + " ");
        }
        if (random.nextInt(8) == 0) {
            text.setCharAt(random.nextInt(text.length()), (char) random.nextInt(256));
        }
        for (int i = 0; i < text.length(); i += 4) {
            int bytes = random.nextInt();
            int n = Math.min(4, text.length() - i);
            for (int k = 0; k < n; k++) {
                bytes = bytes << 8 | text.charAt(i + k);
            }
            call("feed", bytes, n);
        }
        call("wall");
    }

    private void any() {
        Method m = face.get(random.nextInt(face.size()));
        // A full room by chance alone would leave little else to see.
        if ((m.getName().equals("slip") || m.getName().equals("person")) && random.nextInt(4) != 0) {
            return;
        }
        long[] a = new long[m.getParameterCount()];
        for (int i = 0; i < a.length; i++) {
            a[i] = argument(m.getName(), i);
        }
        if (m.getName().equals("write") && random.nextInt(3) == 0) {
            a[2] = random.nextLong();
        }
        call(m.getName(), a);
    }

    private long argument(String name, int i) {
        int chance = random.nextInt(40);
        if (chance == 0) {
            return EDGES[random.nextInt(EDGES.length)];
        }
        if (chance == 1) {
            return random.nextInt();
        }
        boolean isTime = i == 0 && List.of("minutes", "fix", "winner", "largest").contains(name)
            || i == 1 && List.of("on", "way", "rule", "send", "kind").contains(name);
        if (isTime) {
            return random.nextInt(random.nextInt(3) == 0 ? 202 : 12);
        }
        if (name.equals("sheet")) {
            return i == 0 ? random.nextInt(4) : i == 1 ? new int[] {0, 8, 16, 64, 8}[random.nextInt(5)]
                : random.nextInt(random.nextInt(3) == 0 ? 42 : 6);
        }
        if (name.equals("copy") || name.equals("write")) {
            return random.nextInt(4) - (random.nextInt(20) == 0 ? 1 : 0);
        }
        if (name.equals("stick") && i == 2) {
            return random.nextInt(8) - 1;
        }
        if (name.equals("stick") && i == 1) {
            return random.nextInt(3);
        }
        if (name.equals("moves")) {
            return random.nextInt(12);
        }
        return random.nextInt(random.nextInt(4) == 0 ? 11 : 5) - (random.nextInt(12) == 0 ? 1 : 0);
    }

    private void call(String name, long... a) {
        calls++;
        String text = name + Arrays.toString(a);
        long got = Calls.make(program, name, a);
        long want = model.call(name, a);
        log.add(text + "=" + want);
        Due.due("run " + run + ": " + text, got, want);
    }
}
