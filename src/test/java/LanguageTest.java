import java.lang.reflect.Field;
import java.lang.reflect.Method;
import java.lang.reflect.Modifier;
import java.nio.file.Files;
import java.nio.file.Path;
import java.util.ArrayList;
import java.util.List;
import java.util.Set;
import java.util.regex.Matcher;
import java.util.regex.Pattern;

/** Those rules of LANGUAGE.md that can be seen in the class's text and by reflection. */
public final class LanguageTest {
    private static final Set<String> IMPORTS = Set.of("java.util.Arrays", "java.util.NoSuchElementException",
        "java.util.ArrayList", "java.util.List", "java.util.Iterator");
    private static final Set<String> THROWN = Set.of("IllegalStateException", "IllegalArgumentException",
        "IndexOutOfBoundsException", "ArithmeticException", "UnsupportedOperationException", "NoSuchElementException",
        "RuntimeException");
    /** What the machine throws is none of these, nor of a class below them. */
    private static final Set<String> CAUGHT = Set.of("IllegalStateException", "UnsupportedOperationException",
        "NoSuchElementException");
    private static final Set<String> LIBRARY = Set.of("Arrays.fill", "Arrays.copyOf", "Arrays.copyOfRange",
        "System.arraycopy");
    private static final String[] NEVER = {"\\bfinally\\b", "\\bsynchronized\\b", "\\bassert\\b", "->", "::",
        "\\w+Exact\\b", "\\bgetMessage\\b", "\\bhashCode\\b", "\\btoString\\b", "\\bpackage\\b", "\\bstatic\\s*\\{",
        "\\bthrow\\s+[^n]", "\\bdouble\\b", "\\bfloat\\b"};
    /** A line of a class's own, so four or eight blanks deep, that is no statement. */
    private static final Pattern HEAD = Pattern.compile(
        "^( {4}| {8})(?!if|for|while|switch|return|throw)\\w[\\w\\[\\] ]*\\(.*");
    private static final Set<Class<?>> CONSTANTS = Set.of(int.class, long.class, boolean.class, char.class,
        String.class, int[].class, long[].class, char[].class, byte[].class);

    public static void main(String[] args) throws Exception {
        String text = code(Files.readString(Path.of("src/main/java/RasterMint.java")));
        words(text);
        exceptions(text);
        methodLengths(text);
        List<Class<?>> all = new ArrayList<>(List.of(RasterMint.class.getDeclaredClasses()));
        for (Class<?> inside : all) {
            boolean hidden = !Modifier.isPublic(inside.getModifiers()) && !Modifier.isProtected(inside.getModifiers());
            Check.due(inside + " is hidden (1)", hidden, true);
            Check.due(inside + " is static (1)", Modifier.isStatic(inside.getModifiers()), true);
        }
        all.add(RasterMint.class);
        Check.due("some twelve classes (11)", all.size() <= 12, true);
        for (Class<?> one : all) {
            fields(one);
            methods(one);
        }
        Check.finish("LanguageTest");
    }

    /** The text without its notes; what stands between quotes is left out, too. */
    private static String code(String text) {
        return text.replaceAll("(?s)/\\*.*?\\*/", "").replaceAll("//[^\n]*", "").replaceAll("\"[^\"\n]*\"", "\"\"");
    }

    private static List<String> found(String pattern, String text) {
        List<String> all = new ArrayList<>();
        Matcher m = Pattern.compile(pattern).matcher(text);
        while (m.find()) {
            all.add(m.group(1));
        }
        return all;
    }

    /** Rules 2, 4, 5, 6. */
    private static void words(String text) {
        for (String pattern : NEVER) {
            Check.due("it has " + pattern, found("(" + pattern + ")", text).size(), 0);
        }
        for (String name : found("import\\s+([^;]+);", text)) {
            Check.due("import of " + name, IMPORTS.contains(name), true);
        }
        for (String call : found("[^.]\\b((?:Arrays|System)\\.\\w+)", text)) {
            Check.due("library: " + call, LIBRARY.contains(call), true);
        }
    }

    /** Rule 6, and that nothing that the machine throws is caught. */
    private static void exceptions(String text) {
        for (String name : found("\\bthrow\\s+new\\s+(\\w+)", text)) {
            Check.due("throw of " + name, THROWN.contains(name), true);
        }
        List<String> unwritten = found("(\\bthrow\\s+new\\s+\\w+\\((?!\"\"\\)|\\)))", text);
        Check.due("a thrown one has a written text or none", unwritten.size(), 0);
        for (String caught : found("\\bcatch\\s*\\(([^)]*)\\)", text)) {
            for (String name : found("(\\w+)(?=\\s*\\||\\s+\\w+\\s*$)", caught)) {
                Check.due("catch of " + name, CAUGHT.contains(name), true);
            }
        }
    }

    /** Rule 11: some sixty lines, from the line that opens a method to the one that closes it. */
    private static void methodLengths(String text) {
        String[] lines = text.split("\n");
        int methods = 0;
        for (int i = 0; i < lines.length; i++) {
            Matcher head = HEAD.matcher(lines[i]);
            if (!head.matches() || lines[i].endsWith(";")) {
                continue;
            }
            int end = i;
            while (end < lines.length - 1 && !lines[end].equals(head.group(1) + "}")) {
                end++;
            }
            methods++;
            Check.due(lines[i].trim() + ".. has at most sixty lines", end - i + 1 <= 60, true);
        }
        Check.due("methods are found", methods > 100, true);
    }

    /** Rules 5 and 11. */
    private static void fields(Class<?> one) {
        int own = 0;
        for (Field f : one.getDeclaredFields()) {
            if (!Modifier.isStatic(f.getModifiers())) {
                own++;
                continue;
            }
            Check.due(f + " is final", Modifier.isFinal(f.getModifiers()), true);
            Check.due(f + " is a constant", CONSTANTS.contains(f.getType()) || f.getType().isEnum(), true);
        }
        Check.due(one + " has some twenty fields", own <= 20, true);
    }

    /** Rules 1 and 11. */
    private static void methods(Class<?> one) {
        for (Method m : one.getDeclaredMethods()) {
            Check.due(m + " takes at most seven", m.getParameterCount() <= 7, true);
            for (Method face : RasterMint.class.getDeclaredMethods()) {
                boolean shared = one != RasterMint.class && Modifier.isPrivate(m.getModifiers())
                    && Modifier.isPublic(face.getModifiers()) && face.getName().equals(m.getName());
                Check.due(m + " bears a public one's name", shared, false);
            }
        }
    }
}
