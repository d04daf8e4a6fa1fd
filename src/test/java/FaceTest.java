import java.lang.reflect.Constructor;
import java.lang.reflect.Field;
import java.lang.reflect.Method;
import java.lang.reflect.Modifier;
import java.nio.file.Files;
import java.nio.file.Path;
import java.util.Arrays;
import java.util.Set;
import java.util.TreeSet;
import java.util.regex.Matcher;
import java.util.regex.Pattern;
import java.util.stream.Collectors;

/** The public face is just that of the document, and the source keeps clear of what LANGUAGE.md forbids. */
public final class FaceTest {
    private static final String FACE = "moves(int) slip(int) slipOf(int,int) stick(int,int,int) group(int) now(int)"
        + " person(int) of(int,int) wants(int,int,int) out(int,int) turn(int,int) as(int,int) alike(int,int)"
        + " minutes(int) on(int,int,int) way(int,int) done() moved(int)"
        + " rule(int,int) send(int,int) kind(int,int) pair() fix(int) winner(int) largest(int)"
        + " feed(int,int) wipe() wall()"
        + " sheet(int,int,int) write(int,int,long) copy(int,int,int,int,int) lays(int,int) book(int,int)"
        + " read(int,int,int) image() undo() tear() count(int) status(int)";

    private static final String[] HEADINGS = {"the wall: moves slip slipOf stick group now",
        "people: person of wants out turn as alike", "minutes: minutes on way done moved",
        "what is best: rule send kind pair fix winner largest", "the text: feed wipe wall",
        "sheets: sheet write copy lays book read", "images: image undo tear count status"};

    public static void main(String[] args) throws Exception {
        visibleMembers();
        namesInside();
        String source = Files.readString(Path.of("src/main/java/SlipWall.java"));
        String code = withoutComments(source);
        Due.same("only ASCII", source.chars().allMatch(c -> c < 128), true);
        forbiddenWords(code);
        libraryCalls(code);
        objectsMade(code);
        headings(source);
        Due.end();
    }

    private static void visibleMembers() {
        Class<?> type = SlipWall.class;
        Set<String> methods = new TreeSet<>();
        for (Method m : type.getDeclaredMethods()) {
            if (!Modifier.isPrivate(m.getModifiers())) {
                methods.add(signature(m));
                Due.same(m.getName() + " is public and no static", m.getModifiers(), Modifier.PUBLIC);
                Class<?> answer = m.getName().equals("write") ? long.class : int.class;
                Due.same("what " + m.getName() + " answers", m.getReturnType(), answer);
            }
        }
        Due.same("the methods", methods, new TreeSet<>(Arrays.asList(FACE.split(" "))));
        for (Field f : type.getDeclaredFields()) {
            Due.same(f.getName() + " is private", Modifier.isPrivate(f.getModifiers()), true);
        }
        Constructor<?>[] constructors = type.getDeclaredConstructors();
        Due.due("constructors", constructors.length, 1);
        Due.due("parameters", constructors[0].getParameterCount(), 0);
        Due.same("the constructor", constructors[0].getModifiers(), Modifier.PUBLIC);
        Due.same("the class", type.getModifiers(), Modifier.PUBLIC | Modifier.FINAL);
    }

    private static String signature(Method m) {
        return m.getName() + "(" + Arrays.stream(m.getParameterTypes()).map(Class::getName)
            .collect(Collectors.joining(",")) + ")";
    }

    /** No other method bears a name of the face, and all classes inside are static. */
    private static void namesInside() {
        Set<String> names = Arrays.stream(FACE.split(" ")).map(s -> s.substring(0, s.indexOf('(')))
            .collect(Collectors.toSet());
        for (Method m : SlipWall.class.getDeclaredMethods()) {
            Due.same(m.getName() + " is private and bears a public name",
                Modifier.isPrivate(m.getModifiers()) && names.contains(m.getName()), false);
        }
        for (Class<?> inside : SlipWall.class.getDeclaredClasses()) {
            Due.same(inside + " is static", Modifier.isStatic(inside.getModifiers()), true);
            for (Method m : inside.getDeclaredMethods()) {
                Due.same(inside + "." + m.getName() + " bears a public name", names.contains(m.getName()), false);
            }
        }
        Due.same("at most twelve classes", SlipWall.class.getDeclaredClasses().length <= 11, true);
    }

    /** Constant texts become empty ones, so that their words don't count. */
    private static String withoutComments(String source) {
        return source.replaceAll("(?s)/\\*.*?\\*/", " ").replaceAll("//[^\n]*", " ")
            .replaceAll("\"[^\"\n]*\"", "\"\"");
    }

    private static void forbiddenWords(String code) {
        String[] words = {"throw", "try", "catch", "synchronized", "assert", "import", "package", "equals",
            "hashCode", "toString", "float", "double"};
        for (String word : words) {
            Due.same(word + " stands in the source", Pattern.compile("\\b" + word + "\\b").matcher(code).find(), false);
        }
        Due.same("a lambda stands in the source", code.contains("->"), false);
        Due.same("a method reference stands in the source", code.contains("::"), false);
        Due.same("an annotation stands in the source", code.contains("@"), false);
    }

    /** Of the library just these: all are in LANGUAGE.md's list. */
    private static void libraryCalls(String code) {
        Set<String> used = new TreeSet<>();
        Matcher m = Pattern.compile("\\b(?:[A-Z]\\w*|word)\\.\\w+").matcher(code);
        while (m.find()) {
            used.add(m.group());
        }
        Due.same("what is used by its class's name", used, new TreeSet<>(Set.of("Integer.bitCount", "Math.min",
            "Room.wish", "System.arraycopy", "word.charAt", "word.length")));
    }

    /** Only constructors make objects and arrays, so that a run of calls takes no room. */
    private static void objectsMade(String code) {
        Pattern header = Pattern.compile("^ {4,8}(?:[\\w\\[\\]]+ )*(\\w+)\\([^()]*\\) \\{$");
        String method = "";
        int made = 0;
        for (String line : code.split("\n")) {
            Matcher m = header.matcher(line);
            if (m.matches()) {
                method = m.group(1);
            }
            if (line.matches(".*\\bnew\\b.*")) {
                made++;
                Due.same(method + " is a constructor and may make an object", method.matches("[A-Z]\\w*"), true);
            }
        }
        Due.same("some objects are made", made > 0, true);
    }

    /** What the document says that the interface says ahead of which calls. */
    private static void headings(String source) {
        StringBuilder due = new StringBuilder();
        for (String heading : HEADINGS) {
            due.append("---- ").append(heading.replace(": ", " ")).append(' ');
        }
        StringBuilder found = new StringBuilder();
        Matcher m = Pattern.compile("(?m)^    (?:// (---- .*)|public (?:int|long) (\\w+)\\(.*)$").matcher(source);
        while (m.find() && !"---- what the calls share".equals(m.group(1))) {
            found.append(m.group(1) != null ? m.group(1) : m.group(2)).append(' ');
        }
        Due.same("headings and calls in their order", found.toString(), due.toString());
    }
}
