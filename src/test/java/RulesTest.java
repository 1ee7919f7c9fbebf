import java.io.IOException;
import java.lang.reflect.Constructor;
import java.lang.reflect.Field;
import java.lang.reflect.Method;
import java.lang.reflect.Modifier;
import java.nio.file.Files;
import java.nio.file.Path;
import java.util.Arrays;
import java.util.TreeSet;
import java.util.regex.Matcher;
import java.util.regex.Pattern;

/** The face of the class, and the rules of LANGUAGE.md that can be seen in its text. */
public final class RulesTest {
    private static final String[] FACE = {
        "int addSignal(int) IllegalArgumentException IllegalStateException",
        "int read(int, int) IllegalArgumentException IndexOutOfBoundsException",
        "int heard(int) IndexOutOfBoundsException",
        "int safe(int) IndexOutOfBoundsException",
        "int rows(int) IllegalArgumentException",
        "int setFog(int, int) IndexOutOfBoundsException IllegalArgumentException",
        "int rebuild(int, int) IllegalArgumentException IllegalStateException",
        "int setToll(int, int) IllegalArgumentException",
        "int change()",
        "int come(int, int, int, int, int, boolean) IllegalArgumentException IllegalStateException",
        "int cart(int, int) IndexOutOfBoundsException",
        "int queue(int, int) IndexOutOfBoundsException",
        "int box(int, int) IndexOutOfBoundsException",
        "int empty(int) IndexOutOfBoundsException",
        "int pass(int) IllegalArgumentException",
        "int count(int) IndexOutOfBoundsException",
        "int over(int) IndexOutOfBoundsException",
        "int keep()",
        "int foresee(int, int) IllegalArgumentException IndexOutOfBoundsException",
        "double mean()",
        "long digest()",
    };

    private static final String[] NOT_IN_TEXT = {
        "\\bimport\\b", "\\bpackage\\b", "->", "::", "\\bfinally\\b", "\\bsynchronized\\b", "\\bassert\\b",
        "\\bcatch\\b", "Exact\\b", "\\bSystem\\.(?!arraycopy)", "\\bNaN\\b", "\\bgetMessage\\b", "\\bwhile\\b",
        "static\\s*\\{", "[^\\x00-\\x7f]",
    };

    public static void main(String[] args) throws IOException {
        face();
        innerClasses();
        text();
        Check.finish("RulesTest");
    }

    private static void face() {
        Class<?> type = FogBridge.class;
        Check.isTrue("public and final", type.getModifiers() == (Modifier.PUBLIC | Modifier.FINAL));
        Check.isTrue("no class above it", type.getSuperclass() == Object.class && type.getInterfaces().length == 0);
        TreeSet<String> due = new TreeSet<>(Arrays.asList(FACE));
        TreeSet<String> got = new TreeSet<>();
        TreeSet<String> names = new TreeSet<>();
        for (Method method : type.getDeclaredMethods()) {
            if (!Modifier.isPrivate(method.getModifiers())) {
                got.add(written(method));
                names.add(method.getName());
            }
        }
        Check.isTrue("the methods of the face: " + got, got.equals(due));
        for (Method method : type.getDeclaredMethods()) {
            if (Modifier.isPrivate(method.getModifiers())) {
                Check.isTrue("a name of its own: " + method, !names.contains(method.getName()));
            }
        }
        Constructor<?>[] constructors = type.getDeclaredConstructors();
        Check.isTrue("one constructor", constructors.length == 1 && constructors[0].getParameterCount() == 0
            && constructors[0].getModifiers() == Modifier.PUBLIC);
        for (Field field : type.getDeclaredFields()) {
            Check.isTrue("private and final: " + field, Modifier.isPrivate(field.getModifiers())
                && Modifier.isFinal(field.getModifiers()));
        }
    }

    private static String written(Method method) {
        StringBuilder text = new StringBuilder(Modifier.isStatic(method.getModifiers()) ? "static " : "");
        text.append(method.getReturnType().getSimpleName()).append(' ').append(method.getName()).append('(');
        String between = "";
        for (Class<?> type : method.getParameterTypes()) {
            text.append(between).append(type.getSimpleName());
            between = ", ";
        }
        text.append(')');
        for (Class<?> type : method.getExceptionTypes()) {
            text.append(' ').append(type.getSimpleName());
        }
        return text.toString();
    }

    private static void innerClasses() {
        Class<?>[] types = FogBridge.class.getDeclaredClasses();
        Check.isTrue("some twelve classes at most", types.length < 12);
        for (Class<?> type : types) {
            Check.isTrue("static: " + type, Modifier.isStatic(type.getModifiers()));
            Check.isTrue("not seen outside: " + type,
                (type.getModifiers() & (Modifier.PUBLIC | Modifier.PROTECTED)) == 0);
            Check.isTrue("some twenty fields: " + type, type.getDeclaredFields().length <= 20);
            for (Field field : type.getDeclaredFields()) {
                Check.isTrue("no static state: " + field, !Modifier.isStatic(field.getModifiers()));
            }
            for (Method method : type.getDeclaredMethods()) {
                Check.isTrue("seven parameters: " + method, method.getParameterCount() <= 7);
            }
        }
    }

    private static void text() throws IOException {
        String text = Files.readString(Path.of("src/main/java/FogBridge.java"));
        String code = text.replaceAll("(?s)/\\*.*?\\*/", "").replaceAll("//[^\n]*", "");
        for (String part : NOT_IN_TEXT) {
            Matcher matcher = Pattern.compile(part).matcher(code);
            Check.isTrue("not in the text: " + part, !matcher.find());
        }
        Matcher thrown = Pattern.compile("\\bthrow\\b(?! new \\w+\\(\"[^\"]*\"\\);)").matcher(code);
        Check.isTrue("throw only with a written text", !thrown.find());
    }
}
