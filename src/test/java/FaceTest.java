import java.lang.reflect.Constructor;
import java.lang.reflect.Field;
import java.lang.reflect.Method;
import java.lang.reflect.Modifier;
import java.nio.file.Files;
import java.nio.file.Path;
import java.util.Arrays;
import java.util.Set;
import java.util.TreeSet;
import java.util.regex.Pattern;
import java.util.stream.Collectors;

/** The public face is just that of the document, and the source keeps clear of what LANGUAGE.md forbids. */
public final class FaceTest {
    private static final String FACE = "moves(int) slip(int) slipOf(int,int) stick(int,int,int) group(int) now(int)"
        + " person(int) of(int,int) wants(int,int,int) out(int,int) turn(int,int) as(int,int) alike(int,int)"
        + " minutes(int) on(int,int,int) way(int,int) done() moved(int)"
        + " rule(int,int) send(int,int) kind(int,int) pair() fix(int) winner(int) largest(int)"
        + " feed(int,int) wipe() wall()"
        + " sheet(int,int,int) write(int,int,long) copy(int,int,int,int,int) lays(int,int) book(int,int)"
        + " read(int,int,int) image() undo() tear() count(int) status(int)";

    public static void main(String[] args) throws Exception {
        visibleMembers();
        namesInside();
        forbiddenWords();
        Due.end();
    }

    private static void visibleMembers() {
        Class<?> type = SlipWall.class;
        Set<String> methods = new TreeSet<>();
        for (Method m : type.getDeclaredMethods()) {
            if (!Modifier.isPrivate(m.getModifiers())) {
                methods.add(signature(m));
                Due.same(m.getName() + " is public and no static", m.getModifiers(), Modifier.PUBLIC);
                Class<?> answer = m.getName().equals("write") ? long.class : int.class;
                Due.same("what " + m.getName() + " answers", m.getReturnType(), answer);
            }
        }
        Due.same("the methods", methods, new TreeSet<>(Arrays.asList(FACE.split(" "))));
        for (Field f : type.getDeclaredFields()) {
            Due.same(f.getName() + " is private", Modifier.isPrivate(f.getModifiers()), true);
        }
        Constructor<?>[] constructors = type.getDeclaredConstructors();
        Due.due("constructors", constructors.length, 1);
        Due.due("parameters", constructors[0].getParameterCount(), 0);
        Due.same("the constructor", constructors[0].getModifiers(), Modifier.PUBLIC);
        Due.same("the class", type.getModifiers(), Modifier.PUBLIC | Modifier.FINAL);
    }

    private static String signature(Method m) {
        return m.getName() + "(" + Arrays.stream(m.getParameterTypes()).map(Class::getName)
            .collect(Collectors.joining(",")) + ")";
    }

    /** No method inside bears a name of the face, and all classes inside are static. */
    private static void namesInside() {
        Set<String> names = Arrays.stream(FACE.split(" ")).map(s -> s.substring(0, s.indexOf('(')))
            .collect(Collectors.toSet());
        for (Class<?> inside : SlipWall.class.getDeclaredClasses()) {
            Due.same(inside + " is static", Modifier.isStatic(inside.getModifiers()), true);
            for (Method m : inside.getDeclaredMethods()) {
                Due.same(inside + "." + m.getName() + " bears a public name", names.contains(m.getName()), false);
            }
        }
        Due.same("at most twelve classes", SlipWall.class.getDeclaredClasses().length <= 11, true);
    }

    private static void forbiddenWords() throws Exception {
        String source = Files.readString(Path.of("src/main/java/SlipWall.java"));
        String code = source.replaceAll("(?s)/\\*.*?\\*/", " ").replaceAll("//[^\n]*", " ")
            .replaceAll("\"[^\"\n]*\"", "\"\"");
        String[] words = {"throw", "try", "catch", "synchronized", "assert", "import", "package", "equals",
            "hashCode", "toString", "float", "double"};
        for (String word : words) {
            Due.same(word + " stands in the source", Pattern.compile("\\b" + word + "\\b").matcher(code).find(), false);
        }
        Due.same("a lambda stands in the source", code.contains("->"), false);
        Due.same("a method reference stands in the source", code.contains("::"), false);
        Due.same("only ASCII", source.chars().allMatch(c -> c < 128), true);
    }
}
