import java.io.IOException;
import java.lang.reflect.Constructor;
import java.lang.reflect.Field;
import java.lang.reflect.Method;
import java.lang.reflect.Modifier;
import java.nio.file.Files;
import java.nio.file.Path;
import java.util.Arrays;
import java.util.List;
import java.util.TreeSet;
import java.util.regex.Matcher;
import java.util.regex.Pattern;

/** The document's public face, and the rules of the language that a short look can tell. */
public final class FaceTest {
    private static final String[] FACE = {
        "int piece(int, int, int, int) IllegalArgumentException UnsupportedOperationException",
        "int turn(int, int) NoSuchElementException IllegalArgumentException",
        "void limit(int, int) NoSuchElementException IllegalArgumentException",
        "int rank(int, int) NoSuchElementException IllegalArgumentException",
        "void share(int) IllegalArgumentException",
        "int solve(int) IllegalArgumentException",
        "boolean exact()",
        "int steps()",
        "int bound()",
        "int at(int, int) NoSuchElementException IllegalArgumentException",
        "boolean over(int, int) NoSuchElementException IllegalStateException",
        "int support(int) NoSuchElementException ArithmeticException",
        "int bears(int) NoSuchElementException IllegalStateException",
        "int cell(int, int, int) ArrayIndexOutOfBoundsException",
        "int close() IllegalStateException",
        "int box(int) NoSuchElementException",
        "int count(int)",
    };
    /** The machine's exceptions can't be caught where nothing is caught. */
    private static final String[] BARRED = {
        "try", "catch", "finally", "synchronized", "assert", "native", "strictfp", "volatile",
        "->", "::", "Exact(", "System.", "Random", "Thread", "protected", "@",
    };
    private static final List<String> THROWN = List.of("NoSuchElementException", "IllegalArgumentException",
            "IllegalStateException", "UnsupportedOperationException", "ArithmeticException",
            "ArrayIndexOutOfBoundsException");
    private static int wrong = 0;

    private static void hold(boolean holds, String what) {
        if (!holds) {
            wrong++;
            System.out.println(what);
        }
    }

    public static void main(String[] args) throws IOException {
        face();
        hidden();
        sizes();
        source();
        lengths();
        System.out.println(wrong == 0 ? "the face is as due" : wrong + " faults");
        if (wrong != 0) {
            System.exit(1);
        }
    }

    private static String tell(Method method) {
        StringBuilder text = new StringBuilder();
        text.append(method.getReturnType().getSimpleName()).append(' ').append(method.getName()).append('(');
        Class<?>[] types = method.getParameterTypes();
        for (int i = 0; i < types.length; i++) {
            text.append(i == 0 ? "" : ", ").append(types[i].getSimpleName());
        }
        text.append(')');
        for (Class<?> thrown : method.getExceptionTypes()) {
            text.append(' ').append(thrown.getSimpleName());
        }
        return text.toString();
    }

    private static void face() {
        TreeSet<String> due = new TreeSet<>(Arrays.asList(FACE));
        TreeSet<String> there = new TreeSet<>();
        TreeSet<String> publicNames = new TreeSet<>();
        for (Method method : PackingSearch.class.getDeclaredMethods()) {
            if (Modifier.isPublic(method.getModifiers())) {
                there.add(tell(method));
                publicNames.add(method.getName());
            } else {
                hold(Modifier.isPrivate(method.getModifiers()), method + " is neither public nor private");
            }
        }
        hold(due.equals(there), "the public methods are " + there);
        for (Method method : PackingSearch.class.getDeclaredMethods()) {
            boolean clash = Modifier.isPrivate(method.getModifiers()) && publicNames.contains(method.getName());
            hold(!clash, method + " bears a public method's name");
        }
    }

    private static void hidden() {
        int kind = PackingSearch.class.getModifiers();
        hold(Modifier.isPublic(kind) && Modifier.isFinal(kind), "the class is not public and final");
        Constructor<?>[] constructors = PackingSearch.class.getDeclaredConstructors();
        hold(constructors.length == 1 && Modifier.isPublic(constructors[0].getModifiers()), "not one constructor");
        for (Field field : PackingSearch.class.getDeclaredFields()) {
            hold(Modifier.isPrivate(field.getModifiers()), field + " is not private");
        }
        for (Class<?> inside : PackingSearch.class.getDeclaredClasses()) {
            hold(Modifier.isStatic(inside.getModifiers()), inside + " is not static");
            for (Field field : inside.getDeclaredFields()) {
                boolean open = Modifier.isStatic(field.getModifiers()) && !Modifier.isFinal(field.getModifiers());
                hold(!open, field + " is static state");
            }
        }
    }

    private static void sizes() {
        Class<?>[] inside = PackingSearch.class.getDeclaredClasses();
        hold(inside.length < 12, "more than twelve classes");
        sizeOf(PackingSearch.class);
        for (Class<?> kind : inside) {
            sizeOf(kind);
        }
    }

    private static void sizeOf(Class<?> kind) {
        int fields = 0;
        for (Field field : kind.getDeclaredFields()) {
            fields += Modifier.isStatic(field.getModifiers()) ? 0 : 1;
        }
        hold(fields <= 20, kind + " has more than twenty fields");
        for (Method method : kind.getDeclaredMethods()) {
            hold(method.getParameterCount() <= 7, method + " takes more than seven parameters");
        }
    }

    /** Methods of the class begin four blanks in, those of the classes inside it eight. */
    private static void lengths() throws IOException {
        List<String> lines = Files.readAllLines(Path.of("src/main/java/PackingSearch.java"));
        int methods = 0;
        for (int i = 0; i < lines.size(); i++) {
            if (lines.get(i).matches("(    |        )(?! |//|if|for|switch|return)[^=;]*\\([^;]*")) {
                String indent = lines.get(i).startsWith("        ") ? "        " : "    ";
                int end = i;
                while (end < lines.size() && !lines.get(end).equals(indent + "}")) {
                    end++;
                }
                methods++;
                hold(end - i < 60, lines.get(i).strip() + " is longer than sixty lines");
            }
        }
        hold(methods == declared(), "of " + declared() + " methods " + methods + " were found");
    }

    private static int declared() {
        int all = PackingSearch.class.getDeclaredMethods().length + 1;
        for (Class<?> inside : PackingSearch.class.getDeclaredClasses()) {
            all += inside.getDeclaredMethods().length;
            all += writtenConstructors(inside);
        }
        return all;
    }

    /** A constructor that the compiler adds is private where its class is; those of the class here are not. */
    private static int writtenConstructors(Class<?> inside) {
        int written = 0;
        for (Constructor<?> constructor : inside.getDeclaredConstructors()) {
            written += Modifier.isPrivate(constructor.getModifiers()) ? 0 : 1;
        }
        return written;
    }

    private static void source() throws IOException {
        String text = Files.readString(Path.of("src/main/java/PackingSearch.java"));
        String code = text.replaceAll("//[^\n]*", "").replaceAll("\"[^\"\n]*\"", "\"\"");
        for (String word : BARRED) {
            boolean letters = Character.isLetter(word.charAt(0)) && Character.isLetter(word.charAt(word.length() - 1));
            String sought = letters ? "\\b" + word + "\\b" : Pattern.quote(word);
            hold(!Pattern.compile(sought).matcher(code).find(), "the class uses " + word);
        }
        Matcher imports = Pattern.compile("import [^;]*;").matcher(code);
        while (imports.find()) {
            hold(imports.group().equals("import java.util.NoSuchElementException;"), imports.group());
        }
        Matcher thrown = Pattern.compile("throw (?!new \\w+\\((\"\")?\\);)").matcher(code);
        hold(!thrown.find(), "a throw in another form");
        Matcher names = Pattern.compile("throw new (\\w+)").matcher(code);
        while (names.find()) {
            hold(THROWN.contains(names.group(1)), "the document names no " + names.group(1));
        }
    }
}
