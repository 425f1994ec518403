import java.io.IOException;
import java.lang.reflect.Constructor;
import java.lang.reflect.Field;
import java.lang.reflect.Method;
import java.lang.reflect.Modifier;
import java.nio.file.Files;
import java.nio.file.Path;
import java.util.Arrays;
import java.util.List;
import java.util.Set;
import java.util.TreeSet;

/** The document's face, and what of ../shared/LANGUAGE.md can be seen from the class and its text. */
final class LanguageTest {
    private static final List<String> FACE = List.of(
        "boolean program(int, int)", "boolean start()", "int step(int) IllegalStateException IllegalArgumentException",
        "boolean input(int)", "int output(int) IndexOutOfBoundsException", "int perfect(int) IndexOutOfBoundsException",
        "void flip(int, int, int, int) IndexOutOfBoundsException", "boolean freeze(int, boolean)", "boolean skip(int)",
        "boolean swap(int)", "void allow(boolean)", "int module(int, int)", "int register(int, int)",
        "int code(int, int)", "int state(int)");

    private static final String[] NOT_IN_THE_TEXT = {
        "import ", "package ", "->", "::", "synchronized", "assert ", "finally", "try", "catch", "Object", "System.out",
        "Math.random", "nanoTime", "currentTimeMillis", "native ", "volatile", "equals(", "hashCode(", "toString(",
    };

    private static final int LINES_OF_A_METHOD = 60;
    private static final int MOST_CLASSES = 12;
    private static final int MOST_FIELDS = 20;

    private static String nameOf(Method method) {
        StringBuilder text = new StringBuilder();
        text.append(method.getReturnType().getSimpleName()).append(' ').append(method.getName()).append('(');
        Class<?>[] parameters = method.getParameterTypes();
        for (int i = 0; i < parameters.length; i++) {
            text.append(i == 0 ? "" : ", ").append(parameters[i].getSimpleName());
        }
        text.append(')');
        for (Class<?> thrown : method.getExceptionTypes()) {
            text.append(' ').append(thrown.getSimpleName());
        }
        return text.toString();
    }

    private static void faceIsTheDocuments() {
        Set<String> seen = new TreeSet<>();
        for (Method method : VotedTriple.class.getDeclaredMethods()) {
            if (!Modifier.isPrivate(method.getModifiers())) {
                Check.yes(method + " is public", Modifier.isPublic(method.getModifiers()));
                seen.add(nameOf(method));
            }
        }
        Check.yes("the methods are " + FACE + ", seen are " + seen, seen.equals(new TreeSet<>(FACE)));
        for (Field field : VotedTriple.class.getDeclaredFields()) {
            Check.yes(field + " is private", field.getName().equals("NONE") || Modifier.isPrivate(field.getModifiers()));
            Check.yes(field + " is final or no static", !Modifier.isStatic(field.getModifiers())
                || Modifier.isFinal(field.getModifiers()));
        }
        Constructor<?>[] constructors = VotedTriple.class.getDeclaredConstructors();
        Check.same("constructors", 1, constructors.length);
        Check.same("its parameters", 0, constructors[0].getParameterCount());
        Check.yes("it is public", Modifier.isPublic(constructors[0].getModifiers()));
        Check.yes("the class is public and final", Modifier.isPublic(VotedTriple.class.getModifiers())
            && Modifier.isFinal(VotedTriple.class.getModifiers()));
    }

    private static void classesInside() {
        Class<?>[] inside = VotedTriple.class.getDeclaredClasses();
        Check.yes("classes", inside.length + 1 <= MOST_CLASSES);
        for (Class<?> one : inside) {
            Check.yes(one + " is static", Modifier.isStatic(one.getModifiers()));
            Check.no(one + " is public", Modifier.isPublic(one.getModifiers()));
            int fields = 0;
            for (Class<?> level = one; level != Object.class; level = level.getSuperclass()) {
                fields += (int) Arrays.stream(level.getDeclaredFields())
                    .filter(field -> !Modifier.isStatic(field.getModifiers())).count();
            }
            Check.yes(one + " has " + fields + " fields", fields <= MOST_FIELDS);
            for (Method method : one.getDeclaredMethods()) {
                Check.no(method + " bears the name of a public one",
                    FACE.stream().anyMatch(face -> face.contains(" " + method.getName() + "(")));
                Check.yes(method + "'s parameters", method.getParameterCount() <= 7);
            }
        }
    }

    private static void text() throws IOException {
        Path root = Path.of(System.getProperty("project", "."));
        List<String> lines = Files.readAllLines(root.resolve("src/main/java/VotedTriple.java"));
        for (int i = 0; i < lines.size(); i++) {
            String line = lines.get(i).trim();
            boolean comment = line.startsWith("*") || line.startsWith("/");
            for (String word : NOT_IN_THE_TEXT) {
                Check.no("line " + (i + 1) + " has " + word, !comment && line.contains(word));
            }
            if (line.matches("[a-zA-Z].*\\).*\\{") && !line.matches("(if|for|while|switch) .*")) {
                String end = lines.get(i).substring(0, lines.get(i).indexOf(line)) + "}";
                int length = lines.subList(i, lines.size()).indexOf(end);
                Check.yes("the method at line " + (i + 1) + " has " + length + " lines",
                    length > 0 && length <= LINES_OF_A_METHOD);
            }
        }
    }

    public static void main(String[] args) throws IOException {
        faceIsTheDocuments();
        classesInside();
        text();
        Check.end();
    }
}
