import java.util.ArrayList;
import java.util.List;
import java.util.Set;

/**
 * A run of calls on a new object, told as a text of calls with the answers due, such as
 * "moves(0)=3 moves(100)=BEYOND now(1)=0"; a part that begins with "tape:" is fed to THE TAPE.
 *
 * A twin gets the same calls but for those that are due a finding and those that only ask. At the end all that can be
 * seen of both must be the same: a refused call changes nothing but status(), and asking changes nothing.
 */
final class Run {
    /** Longer runs are free to answer anything. */
    private static final int MOST_CALLS = 512;
    private static final String[] FINDINGS = {"BEYOND", "FULL", "KIND", "NONE", "STATE", "MISSING", "SIZE"};
    private static final Set<String> ASKING = Set.of("slipOf", "group", "now", "of", "as", "alike", "on", "way", "done",
        "moved", "rule", "send", "kind", "pair", "fix", "winner", "largest", "read", "count", "status");

    static final String TEN_SLIPS = "slip(0) ".repeat(10);
    static final String SIX_PEOPLE = "person(0) ".repeat(6);
    /** Something of everything, so that a change anywhere would show. */
    static final String SOME = "slip(3) slip(-1) person(0) person(4) wants(1,1,5) out(1,1) stick(1,1,7) stick(1,2,1)"
        + " minutes(3) moves(7) image() slip(4) wants(0,2,0) turn(0,2) minutes(1) sheet(0,8,3) write(0,1,5)"
        + " sheet(1,16,0) sheet(2,8,4) write(2,3,-1) feed(1885695547,4) feed(7563385,3) ";

    private final String label;
    private final SlipWall one = new SlipWall();
    private final SlipWall twin = new SlipWall();
    private int calls = 0;

    private Run(String label) {
        this.label = label;
    }

    static void of(String label, String... parts) {
        Due.same(label + ": more calls than promised", late(label, parts) > MOST_CALLS, false);
    }

    /** A run that may be longer than promised: how many calls it has. */
    static int late(String label, String... parts) {
        Run run = new Run(label);
        for (String part : parts) {
            run.part(part);
        }
        run.compare();
        return run.calls;
    }

    /** The same run again and again, each with one of the calls behind it that are all due this answer. */
    static void each(String label, String before, String answer, String... calls) {
        for (String call : calls) {
            of(label, before, call + "=" + answer);
        }
    }

    /** A call that only asks, whatever it answers. */
    static void asks(String label, String before, String call) {
        if (!ASKING.contains(Calls.name(call))) {
            throw new IllegalArgumentException(call + " does more than ask");
        }
        Run run = new Run(label);
        run.part(before);
        run.alone(call);
        run.compare();
    }

    /** A text with a FAULT, which comes to one of the two alone: nothing comes of it, and THE TAPE is empty. */
    static void fault(String label, String before, String text, int place) {
        Run run = new Run(label + " '" + text + "'");
        run.part(before);
        Due.tape(run.one, text);
        run.calls += text.length();
        Due.due(run.label + ": the FAULT", run.alone("wall()"), -1 - place);
        Due.due(run.label + ": bytes then", run.alone("count(2)"), 0);
        Due.due(run.label + ": findings then", run.alone("status(-1)"), 0);
        run.compare();
        Due.same(run.label + ": more calls than promised", run.calls > MOST_CALLS, false);
    }

    private void part(String part) {
        if (part.startsWith("tape:")) {
            tape(part.substring("tape:".length()));
            return;
        }
        for (String told : part.isBlank() ? new String[0] : part.trim().split("\\s+")) {
            int equals = told.indexOf('=');
            if (equals < 0) {
                made(told);
            } else {
                due(told.substring(0, equals), told.substring(equals + 1));
            }
        }
    }

    private void tape(String text) {
        for (int i = 0; i < text.length(); i += 4) {
            int n = Math.min(4, text.length() - i);
            long bytes = 0;
            for (int k = 0; k < n; k++) {
                bytes = bytes << 8 | text.charAt(i + k);
            }
            made("feed(" + (int) bytes + "," + n + ")");
        }
    }

    /** A call that prepares something: it must not be refused. */
    private void made(String call) {
        long got = both(call);
        Due.same(label + ": " + call + " is refused", got < -1000000000L, false);
    }

    private void due(String call, String answer) {
        int finding = List.of(FINDINGS).indexOf(answer);
        if (finding >= 0) {
            refused(call, finding);
        } else if (ASKING.contains(Calls.name(call))) {
            Due.due(label + ": " + call, alone(call), number(answer));
        } else {
            Due.due(label + ": " + call, both(call), number(answer));
        }
    }

    private static long number(String answer) {
        return switch (answer) {
            case "MIN" -> Long.MIN_VALUE;
            case "MAX" -> Long.MAX_VALUE;
            default -> Long.parseLong(answer);
        };
    }

    private void refused(String call, int finding) {
        long all = alone("status(-1)");
        long these = alone("status(" + finding + ")");
        Due.due(label + ": " + call, alone(call), -1000000001L - finding);
        Due.due(label + ": all findings after " + call, alone("status(-1)"), all + 1);
        Due.due(label + ": those of " + FINDINGS[finding] + " after " + call,
            alone("status(" + finding + ")"), these + 1);
    }

    private long both(String call) {
        Calls.make(twin, Calls.name(call), Calls.arguments(call));
        return alone(call);
    }

    private long alone(String call) {
        calls++;
        return Calls.make(one, Calls.name(call), Calls.arguments(call));
    }

    private void compare() {
        Due.same(label + ": all that can be seen", seen(one, true), seen(twin, false));
    }

    /** All that can be seen of an object but status(); it is used up by this. */
    private List<Long> seen(SlipWall x, boolean isCounted) {
        List<Long> all = new ArrayList<>();
        int before = all.size();
        // MOVES first, since the text may change them; all else of the wall shows behind the text as well as before.
        all.add((long) x.now(1));
        all.add((long) x.count(2));
        all.add((long) x.wall());
        wall(x, all);
        all.add((long) x.undo());
        wall(x, all);
        // Last, since looking for a sheet's end is a refused call itself.
        for (int s = 0; s < 4; s++) {
            sheet(x, s, all);
        }
        if (isCounted) {
            calls += all.size() - before;
        }
        return all;
    }

    private static void wall(SlipWall x, List<Long> all) {
        all.add((long) x.now(0));
        all.add((long) x.now(1));
        int slips = x.count(0);
        all.add((long) slips);
        for (int slip = 0; slip < slips; slip++) {
            for (int what = 0; what < 3; what++) {
                all.add((long) x.slipOf(slip, what));
            }
        }
        int people = x.count(1);
        all.add((long) people);
        for (int person = 0; person < people; person++) {
            all.add((long) x.of(person, 0));
            all.add((long) x.of(person, 1));
            for (int slip = 0; slip < 10; slip++) {
                all.add((long) x.wants(person, slip, 0));
            }
        }
    }

    private static void sheet(SlipWall x, int s, List<Long> all) {
        long was = 0;
        for (int i = 0; i <= 40 && was != Due.BEYOND && was != Due.MISSING; i++) {
            was = x.write(s, i, Long.MIN_VALUE);
            all.add(was);
        }
        // Of how many bits it is shows in what stays of these: 9 bits are too many for 8, 64 for 16.
        all.add(x.write(s, 0, 384));
        all.add(x.write(s, 0, 0));
    }
}
