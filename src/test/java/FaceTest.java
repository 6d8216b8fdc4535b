import java.io.IOException;
import java.lang.reflect.Constructor;
import java.lang.reflect.Field;
import java.lang.reflect.Method;
import java.lang.reflect.Modifier;
import java.nio.charset.StandardCharsets;
import java.nio.file.Files;
import java.nio.file.Path;
import java.util.ArrayList;
import java.util.Arrays;
import java.util.List;
import java.util.TreeSet;
import java.util.regex.Matcher;
import java.util.regex.Pattern;

/** The public face to the letter, and the rules of the language that can be read off the class or its source. */
public final class FaceTest {
    private static final String INDEX = "IndexOutOfBoundsException";
    private static final String ARGUMENT = "IllegalArgumentException";
    private static final String STATE = "IllegalStateException";

    private static final String[] FACE = {
        "int addNode() " + STATE,
        "boolean rail(int,boolean,int) " + INDEX + "," + ARGUMENT,
        "int addElement(boolean,int,int,int) " + INDEX + "," + ARGUMENT + "," + STATE,
        "int resize(int,int) " + INDEX + "," + ARGUMENT,
        "boolean begin(int,boolean) " + INDEX,
        "int toggle(int,int) " + INDEX + "," + ARGUMENT + "," + STATE,
        "int count(int) " + INDEX,
        "int element(int,int) " + INDEX,
        "int toggleAt(int,int) " + INDEX,
        "boolean isOn(int,int) " + INDEX + "," + ARGUMENT,
        "int together(int,int) " + INDEX + "," + ARGUMENT,
        "boolean floats(int,int) " + INDEX + "," + ARGUMENT,
        "long potential(int,int,boolean) " + INDEX + "," + ARGUMENT + "," + STATE,
        "long current(int,int,boolean) " + INDEX + "," + ARGUMENT + "," + STATE,
        "long feed(int,int,boolean) " + INDEX + "," + ARGUMENT + "," + STATE,
        "long resistance(int,int,int,boolean) " + INDEX + "," + ARGUMENT + "," + STATE,
        "double power(int) " + ARGUMENT,
        "int nextToggle(int) " + ARGUMENT,
        "int probe(int,int,int,boolean) " + INDEX + "," + ARGUMENT,
        "int compare(int,int,int,int) " + INDEX + "," + ARGUMENT + "," + STATE,
        "int levels(int) " + ARGUMENT,
        "long digest() ",
    };

    /** What the rules leave out, as far as a word or a sign tells it; and catch, since nothing here needs one. */
    private static final String[] RULED_OUT = {
        "->", "::", "\\bcatch\\b", "\\bfinally\\b", "\\bsynchronized\\b", "\\bassert\\b",
        "\\bvar\\b", "Exact\\b", "\\bSystem\\b", "\\bThread\\b", "\\bRandom\\b", "\\bMath\\.random\\b",
        "^package\\b", "^import (?!java\\.util\\.ArrayList;)", "@", "\\.(getClass|hashCode|equals|toString)\\(",
        "\\bstatic\\s*\\{", "[^\\x00-\\x7f]",
    };

    public static void main(String[] args) throws IOException {
        publicMembers();
        otherMembers();
        insideClasses();
        source(Files.readString(
            Path.of(System.getProperty("project.root"), "src/main/java/NetlistBench.java"), StandardCharsets.UTF_8));
        Check.end();
    }

    private static void publicMembers() {
        TreeSet<String> found = new TreeSet<>();
        for (Method method : NetlistBench.class.getDeclaredMethods()) {
            if (!Modifier.isPrivate(method.getModifiers())) {
                found.add(face(method));
            }
        }
        Check.due("the face", found.toString(), new TreeSet<>(Arrays.asList(FACE)).toString());
        Constructor<?>[] constructors = NetlistBench.class.getDeclaredConstructors();
        Check.due("constructors", Arrays.toString(constructors), "[public NetlistBench()]");
        Check.due("the class", Modifier.toString(NetlistBench.class.getModifiers()), "public final");
    }

    private static String face(Method method) {
        String text = Modifier.toString(method.getModifiers()).equals("public") ? "" : method.toString();
        text += method.getReturnType() + " " + method.getName() + "(" + names(method.getParameterTypes()) + ") ";
        return text + names(method.getExceptionTypes());
    }

    private static String names(Class<?>[] types) {
        List<String> names = new ArrayList<>();
        for (Class<?> type : types) {
            names.add(type.getSimpleName());
        }
        return String.join(",", names);
    }

    private static void otherMembers() {
        for (Field field : NetlistBench.class.getDeclaredFields()) {
            int modifiers = field.getModifiers();
            Check.due("private: " + field, "" + Modifier.isPrivate(modifiers), "true");
            if (Modifier.isStatic(modifiers)) {
                Check.due("final: " + field, "" + Modifier.isFinal(modifiers), "true");
            }
        }
        TreeSet<String> publicNames = new TreeSet<>();
        for (Method method : NetlistBench.class.getDeclaredMethods()) {
            if (Modifier.isPublic(method.getModifiers())) {
                publicNames.add(method.getName());
            }
        }
        for (Method method : NetlistBench.class.getDeclaredMethods()) {
            if (Modifier.isPrivate(method.getModifiers())) {
                Check.due("its own name: " + method, "" + publicNames.contains(method.getName()), "false");
                Check.due("parameters: " + method, "" + (method.getParameterCount() <= 7), "true");
            }
        }
    }

    private static void insideClasses() {
        Class<?>[] inside = NetlistBench.class.getDeclaredClasses();
        Check.due("number of classes", "" + (inside.length <= 11), "true");
        for (Class<?> one : inside) {
            Check.due(one.toString(), Modifier.toString(one.getModifiers()), "private static final");
            Check.due("fields of " + one, "" + (one.getDeclaredFields().length <= 20), "true");
            for (Method method : one.getDeclaredMethods()) {
                Check.due("not public: " + method, "" + Modifier.isPublic(method.getModifiers()), "false");
            }
        }
    }

    private static void source(String source) {
        for (String sign : RULED_OUT) {
            Matcher matcher = Pattern.compile(sign, Pattern.MULTILINE).matcher(withoutComments(source));
            Check.due("signs ruled out", matcher.find() ? matcher.group() : "none", "none");
        }
        int length = 0;
        for (String line : source.split("\n")) {
            length = line.matches(" {4}( {4})?\\S.*\\) .*\\{") ? 0 : length + 1;
            if (line.matches(" {4}( {4})?\\}")) {
                Check.due("short methods, before: " + line, "" + (length <= 60), "true");
            }
        }
    }

    private static String withoutComments(String source) {
        return source.replaceAll("(?s)/\\*.*?\\*/", "").replaceAll("//[^\n]*", "");
    }
}
