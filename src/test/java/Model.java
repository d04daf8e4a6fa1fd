import java.util.ArrayList;
import java.util.Arrays;
import java.util.List;
import java.util.function.IntUnaryOperator;
import java.util.function.ToIntFunction;
import java.util.regex.Matcher;
import java.util.regex.Pattern;

/**
 * The document once more, written as slowly and as near to its words as can be, with the whole Java library:
 * ModelTest holds the program against it. It takes nothing from the program.
 */
final class Model {
    static final class Finding extends RuntimeException {
        final int number;

        Finding(int number) {
            super(null, null, false, false);
            this.number = number;
        }
    }

    record Slip(int in, int moved, int fixed) {
    }

    record One(int kind, int out, List<Integer> wants) {
    }

    /** What section 1 tells; never changed, only replaced. */
    record Wall(int minute, int moves, List<Slip> slips, List<One> people) {
        Wall slip(int i, Slip s) {
            return new Wall(minute, moves, with(slips, i, s), people);
        }

        Wall one(int i, One p) {
            return new Wall(minute, moves, slips, with(people, i, p));
        }

        Wall rule(int v) {
            return new Wall(minute, v, slips, people);
        }
    }

    private static final String[] NAMES = {"person", "loud", "shy", "boss", "pen", "quiet"};
    private static final int[] ABOVE = {-1, 0, 0, 0, 1, 2};

    private Wall wall = new Wall(0, 3, List.of(), List.of());
    private Wall kept = null;
    private StringBuilder tape = new StringBuilder();
    private final int[] bits = new int[4];
    private final long[][] sheets = new long[4][];
    private final int[] told = new int[7];

    private static <T> List<T> with(List<T> list, int i, T x) {
        List<T> copy = new ArrayList<>(list);
        if (i == copy.size()) {
            copy.add(x);
        } else {
            copy.set(i, x);
        }
        return List.copyOf(copy);
    }

    // ---- what the kinds do

    private static boolean may(int kind, int m, int moves, int t) {
        return switch (NAMES[kind]) {
            case "person" -> m < moves;
            case "loud" -> may(0, m, moves, t) || m < 2;
            case "shy" -> may(0, m, moves, t) && m == 0;
            case "boss" -> true;
            case "pen" -> may(1, m, moves, t);
            default -> may(2, m, moves, t) || t % 2 != 0 && m < moves;
        };
    }

    private static int turns(int kind) {
        return switch (NAMES[kind]) {
            case "loud" -> turns(0) + 1;
            case "pen" -> turns(1) + 1;
            default -> 1;
        };
    }

    private static boolean fixes(int kind, int m) {
        return NAMES[kind].equals("boss") || NAMES[kind].equals("pen") && m >= 5;
    }

    private static int picks(Wall w, One p) {
        List<Integer> can = new ArrayList<>();
        for (int i = 0; i < w.slips().size(); i++) {
            Slip s = w.slips().get(i);
            if (s.fixed() == 0 && s.in() != p.wants().get(i) && may(p.kind(), s.moved(), w.moves(), w.minute())) {
                can.add(i);
            }
        }
        if (can.isEmpty()) {
            return -1;
        }
        return switch (NAMES[p.kind()]) {
            case "loud", "pen" -> can.get(can.size() - 1);
            case "boss" -> can.stream().max((a, b) -> {
                int c = Integer.compare(w.slips().get(a).moved(), w.slips().get(b).moved());
                return c != 0 ? c : Integer.compare(b, a);
            }).get();
            default -> can.get(0);
        };
    }

    /** One MINUTE; the slips moved in it come to a list. */
    private static Wall minute(Wall w, List<Integer> touched) {
        Wall then = w;
        if (!w.people().isEmpty()) {
            One p = w.people().get(w.minute() % w.people().size());
            for (int turn = 0; p.out() == 0 && turn < turns(p.kind()); turn++) {
                int i = picks(then, p);
                if (i >= 0) {
                    int m = Math.min(999, then.slips().get(i).moved() + 1);
                    then = then.slip(i, new Slip(p.wants().get(i), m, fixes(p.kind(), m) ? 1 : 0));
                    touched.add(i);
                }
            }
        }
        return new Wall(w.minute() + 1, then.moves(), then.slips(), then.people());
    }

    private static Wall ahead(Wall w, int n) {
        Wall then = w;
        for (int i = 0; i < n; i++) {
            then = minute(then, new ArrayList<>());
        }
        return then;
    }

    private static boolean isDone(Wall w) {
        List<Integer> touched = new ArrayList<>();
        Wall then = w;
        for (int i = 0; i < w.people().size(); i++) {
            then = minute(then, touched);
        }
        return touched.isEmpty();
    }

    private static int set(int n, IntUnaryOperator isIn) {
        int set = 0;
        for (int i = 0; i < n; i++) {
            set += isIn.applyAsInt(i) << i;
        }
        return set;
    }

    private static boolean hasWay(Wall w, int p, int slip) {
        return w.slips().get(slip).in() == w.people().get(p).wants().get(slip);
    }

    private static int ways(Wall w, int p) {
        return Integer.bitCount(set(w.slips().size(), i -> hasWay(w, p, i) ? 1 : 0));
    }

    private static int together(Wall w) {
        return w.slips().stream().mapToInt(Slip::moved).sum();
    }

    private static int alike(Wall w, int a, int b) {
        int count = 0;
        for (int i = 0; i < w.slips().size(); i++) {
            if (w.people().get(a).wants().get(i).equals(w.people().get(b).wants().get(i))) {
                count++;
            }
        }
        return count;
    }

    /** Of the candidates the one of the highest worth, the least of several. */
    private static int best(List<Integer> candidates, ToIntFunction<Integer> worth) {
        need(!candidates.isEmpty(), 3);
        int most = candidates.stream().mapToInt(worth).max().getAsInt();
        return candidates.stream().filter(c -> worth.applyAsInt(c) == most).min(Integer::compare).get();
    }

    private static List<Integer> upTo(int from, int to) {
        List<Integer> list = new ArrayList<>();
        for (int i = from; i <= to; i++) {
            list.add(i);
        }
        return list;
    }

    // ---- findings

    private static void need(boolean right, int finding) {
        if (!right) {
            throw new Finding(finding);
        }
    }

    private static void range(int v, int least, int most) {
        need(v >= least && v <= most, 0);
    }

    private void isSlip(int slip) {
        range(slip, 0, wall.slips().size() - 1);
    }

    private void isOne(int p) {
        range(p, 0, wall.people().size() - 1);
    }

    private void isSheet(int s) {
        range(s, 0, 3);
    }

    private void isThere(int s) {
        need(bits[s] != 0, 5);
    }

    /** What the call answers, as the program would. */
    long call(String name, long[] a) {
        try {
            return act(name, a);
        } catch (Finding f) {
            told[f.number]++;
            return -1000000001L - f.number;
        }
    }

    private long act(String name, long[] a) {
        int p = a.length > 0 ? (int) a[0] : 0;
        int q = a.length > 1 ? (int) a[1] : 0;
        int r = a.length > 2 ? (int) a[2] : 0;
        return switch (name) {
            case "moves", "slip", "slipOf", "stick", "group", "now" -> wallAct(name, p, q, r);
            case "person", "of", "wants", "out", "turn", "as", "alike" -> peopleAct(name, p, q, r);
            case "minutes", "on", "way", "done", "moved" -> minutesAct(name, p, q, r);
            case "rule", "send", "kind", "pair", "fix", "winner", "largest" -> bestAct(name, p, q);
            case "feed", "wipe", "wall" -> textAct(name, p, q);
            case "sheet", "write", "copy", "lays", "book", "read" -> sheetAct(name, a);
            default -> imageAct(name, p);
        };
    }

    private int wallAct(String name, int p, int q, int r) {
        switch (name) {
            case "moves": {
                range(p, 0, 99);
                int was = wall.moves();
                wall = wall.rule(p);
                return was;
            }
            case "slip": {
                range(p, -1, 5);
                int number = wall.slips().size();
                need(number < 10, 1);
                wall = wall.slip(number, new Slip(p, 0, 0));
                return number;
            }
            case "slipOf": {
                isSlip(p);
                range(q, 0, 4);
                Slip s = wall.slips().get(p);
                if (q == 4) {
                    return wall.people().isEmpty() ? -1 : best(upTo(0, 5),
                        g -> (int) wall.people().stream().filter(x -> x.wants().get(p).equals(g)).count());
                }
                return q == 3 ? set(wall.people().size(), i -> hasWay(wall, i, p) ? 1 : 0)
                    : q == 0 ? s.in() : q == 1 ? s.moved() : s.fixed();
            }
            case "stick": {
                isSlip(p);
                range(q, 0, 2);
                Slip s = wall.slips().get(p);
                range(r, q == 0 ? -1 : 0, q == 0 ? 5 : q == 1 ? 999 : 1);
                wall = wall.slip(p, q == 0 ? new Slip(r, s.moved(), s.fixed())
                    : q == 1 ? new Slip(s.in(), r, s.fixed()) : new Slip(s.in(), s.moved(), r));
                return q == 0 ? s.in() : q == 1 ? s.moved() : s.fixed();
            }
            case "group":
                range(p, -1, 5);
                return set(wall.slips().size(), i -> wall.slips().get(i).in() == p ? 1 : 0);
            default:
                range(p, 0, 5);
                return switch (p) {
                    case 0 -> wall.minute();
                    case 1 -> wall.moves();
                    case 2 -> wall.people().isEmpty() ? -1 : wall.minute() % wall.people().size();
                    case 3 -> set(6, g -> wall.slips().stream().anyMatch(s -> s.in() == g) ? 1 : 0);
                    case 4 -> set(wall.slips().size(), i -> wall.slips().get(i).fixed());
                    default -> together(wall);
                };
        }
    }

    private int peopleAct(String name, int p, int q, int r) {
        if (name.equals("person")) {
            range(p, 0, 5);
            int number = wall.people().size();
            need(number < 6, 1);
            wall = wall.one(number, new One(p, 0, List.of(0, 1, 2, 3, 4, 5, 0, 1, 2, 3)));
            return number;
        }
        isOne(p);
        One x = wall.people().get(p);
        switch (name) {
            case "of":
                range(q, 0, 4);
                return switch (q) {
                    case 0 -> x.kind();
                    case 1 -> x.out();
                    case 2 -> set(wall.slips().size(), i -> hasWay(wall, p, i) ? 1 : 0);
                    case 3 -> picks(wall, x);
                    default -> turns(x.kind());
                };
            case "wants":
                range(q, 0, 9);
                range(r, 0, 5);
                wall = wall.one(p, new One(x.kind(), x.out(), with(x.wants(), q, r)));
                return x.wants().get(q);
            case "out":
                range(q, 0, 1);
                wall = wall.one(p, new One(x.kind(), q, x.wants()));
                return x.out();
            case "turn":
                range(q, 0, 5);
                wall = wall.one(p, new One(q, x.out(), x.wants()));
                return x.kind();
            case "as": {
                range(q, 0, 5);
                boolean is = false;
                for (int k = x.kind(); k >= 0; k = ABOVE[k]) {
                    is |= k == q;
                }
                need(is, 2);
                return ways(wall, p);
            }
            default:
                isOne(q);
                need(p != q, 0);
                return alike(wall, p, q);
        }
    }

    private int minutesAct(String name, int p, int q, int r) {
        switch (name) {
            case "minutes":
                range(p, 1, 100);
                need(wall.minute() + p <= 99999, 4);
                wall = ahead(wall, p);
                return together(wall);
            case "on": {
                isSlip(p);
                range(q, 0, 200);
                range(r, 0, 2);
                Slip s = ahead(wall, q).slips().get(p);
                return r == 0 ? s.in() : r == 1 ? s.moved() : s.fixed();
            }
            case "way":
                isOne(p);
                range(q, 0, 200);
                return ways(ahead(wall, q), p);
            case "done": {
                Wall then = wall;
                for (int n = 0; n <= 200; n++) {
                    if (isDone(then)) {
                        return n;
                    }
                    then = ahead(then, 1);
                }
                throw new Finding(3);
            }
            default: {
                isSlip(p);
                Wall then = wall;
                for (int n = 1; n <= 200; n++) {
                    List<Integer> touched = new ArrayList<>();
                    then = minute(then, touched);
                    if (touched.contains(p)) {
                        return n;
                    }
                }
                throw new Finding(3);
            }
        }
    }

    private int bestAct(String name, int p, int q) {
        int people = wall.people().size();
        switch (name) {
            case "rule":
                isOne(p);
                range(q, 1, 100);
                return best(upTo(0, 20), v -> ways(ahead(wall.rule(v), q), p));
            case "send": {
                isOne(p);
                range(q, 1, 100);
                List<Integer> can = upTo(0, people - 1);
                can.removeIf(i -> i == p || wall.people().get(i).out() == 1);
                return best(can, i -> {
                    One x = wall.people().get(i);
                    return ways(ahead(wall.one(i, new One(x.kind(), 1, x.wants())), q), p);
                });
            }
            case "kind": {
                isOne(p);
                range(q, 1, 100);
                One x = wall.people().get(p);
                return best(upTo(0, 5), k -> ways(ahead(wall.one(p, new One(k, x.out(), x.wants())), q), p));
            }
            case "pair": {
                List<Integer> can = upTo(0, 99);
                can.removeIf(c -> c % 10 >= people || c / 10 >= c % 10);
                return best(can, c -> alike(wall, c / 10, c % 10));
            }
            case "fix": {
                range(p, 1, 60);
                List<Integer> can = upTo(0, wall.slips().size() - 1);
                can.removeIf(i -> wall.slips().get(i).fixed() == 1);
                return best(can, i -> {
                    Slip s = wall.slips().get(i);
                    return -together(ahead(wall.slip(i, new Slip(s.in(), s.moved(), 1)), p));
                });
            }
            case "winner": {
                range(p, 0, 200);
                Wall then = ahead(wall, p);
                return best(upTo(0, people - 1), i -> ways(then, i));
            }
            default: {
                range(p, 0, 200);
                Wall then = ahead(wall, p);
                return best(upTo(0, 5), g -> (int) then.slips().stream().filter(s -> s.in() == g).count());
            }
        }
    }

    // ---- the text

    private int textAct(String name, int p, int q) {
        switch (name) {
            case "feed": {
                range(q, 1, 4);
                need(tape.length() + q <= 120, 1);
                byte[] all = {(byte) (p >> 24), (byte) (p >> 16), (byte) (p >> 8), (byte) p};
                for (int i = 4 - q; i < 4; i++) {
                    tape.append((char) (all[i] & 0xFF));
                }
                return tape.length();
            }
            case "wipe": {
                int had = tape.length();
                tape.setLength(0);
                return had;
            }
            default: {
                String text = tape.toString();
                tape.setLength(0);
                return tell(text);
            }
        }
    }

    private record Token(String text, int place) {
        boolean isNumber(int most) {
            return text.matches("[0-9]+") && new java.math.BigInteger(text).intValueExact() <= most;
        }
    }

    private static List<Token> tokens(String text) {
        List<Token> list = new ArrayList<>();
        Matcher m = Pattern.compile("[a-z]+|[0-9]+|[^ ]", Pattern.DOTALL).matcher(text);
        while (m.find()) {
            boolean large = m.group().matches("0*[1-9][0-9]{3,}");
            list.add(new Token(large ? "?" : m.group(), m.start()));
        }
        list.add(new Token("", text.length()));
        return list;
    }

    /** A machine of states: each token leads on or is the FAULT. */
    private int tell(String text) {
        Wall then = wall;
        String state = "item";
        int items = 0;
        int wishes = 0;
        for (Token t : tokens(text)) {
            int kind = Arrays.asList(NAMES).indexOf(t.text());
            int lastSlip = then.slips().size() - 1;
            int last = then.people().size() - 1;
            boolean ends = state.equals("end") || state.equals("fixed?") || state.equals("wants?")
                || state.equals("more");
            if (ends && t.text().isEmpty()) {
                wall = then;
                return items;
            } else if (ends && t.text().equals(";")) {
                state = "item";
            } else if (state.equals("item") && t.text().equals("slip") && lastSlip < 9) {
                state = "group";
                items++;
            } else if (state.equals("item") && t.text().equals("moves")) {
                state = "moves";
                items++;
            } else if (state.equals("item") && kind >= 0 && last < 5) {
                then = then.one(last + 1, new One(kind, 0, List.of(0, 1, 2, 3, 4, 5, 0, 1, 2, 3)));
                state = "wants?";
                items++;
            } else if (state.equals("group") && (t.isNumber(5) || t.text().equals("floor"))) {
                int in = t.isNumber(5) ? Integer.parseInt(t.text()) : -1;
                then = then.slip(lastSlip + 1, new Slip(in, 0, 0));
                state = "fixed?";
            } else if (state.equals("fixed?") && t.text().equals("fixed")) {
                then = then.slip(lastSlip, new Slip(then.slips().get(lastSlip).in(), 0, 1));
                state = "end";
            } else if (state.equals("moves") && t.isNumber(99)) {
                then = then.rule(Integer.parseInt(t.text()));
                state = "end";
            } else if (state.equals("wants?") && t.text().equals("wants")) {
                wishes = 0;
                state = "first";
            } else if ((state.equals("first") || state.equals("more") && wishes < 5) && t.isNumber(5)) {
                One x = then.people().get(last);
                then = then.one(last, new One(x.kind(), 0, with(x.wants(), wishes, Integer.parseInt(t.text()))));
                wishes++;
                state = "more";
            } else {
                return -1 - t.place();
            }
        }
        throw new AssertionError("the end of a text is a token");
    }

    // ---- sheets

    private static long cut(int bits, long v) {
        return v << 64 - bits >> 64 - bits;
    }

    private long sheetAct(String name, long[] a) {
        int s = (int) a[0];
        int p = (int) a[1];
        isSheet(s);
        switch (name) {
            case "sheet": {
                int n = (int) a[2];
                need(p == 0 || p == 8 || p == 16 || p == 64, 0);
                need(n >= 0, 6);
                need(n <= 40, 0);
                bits[s] = p;
                sheets[s] = new long[p == 0 ? 0 : n];
                return sheets[s].length;
            }
            case "write": {
                isThere(s);
                range(p, 0, sheets[s].length - 1);
                long was = sheets[s][p];
                sheets[s][p] = cut(bits[s], a[2]);
                return was;
            }
            case "copy": {
                int t = (int) a[2];
                isSheet(t);
                isThere(s);
                isThere(t);
                need(bits[s] == bits[t], 2);
                need(a[1] >= 0 && a[3] >= 0 && a[4] >= 0, 0);
                need(a[1] + a[4] <= sheets[s].length && a[3] + a[4] <= sheets[t].length, 0);
                long[] were = sheets[s].clone();
                for (int i = 0; i < a[4]; i++) {
                    sheets[t][(int) a[3] + i] = were[p + i];
                }
                return a[4];
            }
            case "lays": {
                isThere(s);
                isOne(p);
                int came = 0;
                for (int i = 0; i < Math.min(10, sheets[s].length); i++) {
                    if (sheets[s][i] >= 0 && sheets[s][i] < 6) {
                        One x = wall.people().get(p);
                        wall = wall.one(p, new One(x.kind(), x.out(), with(x.wants(), i, (int) sheets[s][i])));
                        came++;
                    }
                }
                return came;
            }
            case "book":
                isThere(s);
                isSlip(p);
                for (int i = 0; i < sheets[s].length; i++) {
                    sheets[s][i] = ahead(wall, i).slips().get(p).in();
                }
                return sheets[s].length;
            default:
                isThere(s);
                isSlip(p);
                isOne((int) a[2]);
                return pairs(s, p, (int) a[2]);
        }
    }

    private int pairs(int s, int slip, int p) {
        int pairs = 0;
        One x = wall.people().get(p);
        for (int kind = 0; kind < 6; kind++) {
            for (int g = 0; g < 6; g++) {
                Wall then = wall.one(p, new One(kind, x.out(), with(x.wants(), slip, g)));
                boolean justSo = true;
                for (int i = 0; i < sheets[s].length; i++) {
                    justSo &= ahead(then, i).slips().get(slip).in() == sheets[s][i];
                }
                pairs += justSo ? 1 : 0;
            }
        }
        return pairs;
    }

    // ---- images

    private int imageAct(String name, int p) {
        switch (name) {
            case "image":
                kept = wall;
                return 1;
            case "undo":
                need(kept != null, 3);
                wall = kept;
                return wall.slips().size();
            case "tear": {
                int had = kept == null ? 0 : 1;
                kept = null;
                return had;
            }
            case "count":
                range(p, 0, 3);
                return p == 0 ? wall.slips().size() : p == 1 ? wall.people().size() : p == 2 ? tape.length()
                    : (int) wall.slips().stream().filter(s -> s.in() == -1).count();
            default:
                range(p, -1, 6);
                return p == -1 ? Arrays.stream(told).sum() : told[p];
        }
    }
}
