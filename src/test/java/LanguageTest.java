import java.io.IOException;
import java.lang.reflect.Constructor;
import java.lang.reflect.Field;
import java.lang.reflect.Method;
import java.lang.reflect.Modifier;
import java.nio.file.Files;
import java.nio.file.Path;
import java.util.ArrayList;
import java.util.Arrays;
import java.util.HashSet;
import java.util.List;
import java.util.Set;
import java.util.TreeSet;
import java.util.regex.Matcher;
import java.util.regex.Pattern;

/** What of LANGUAGE.md a program can look for: the face, the words that may not stand, and the sizes. */
public final class LanguageTest {
    private static final Check CHECK = new Check("language");
    private static final String FACE = "ahead 4, alike 3, begin 1, build 2, by 1, commit 1, count 1, entry 3, erase 2, far 1,"
        + " fault 1, feed 5, find 1, found 2, free 0, giveUp 1, image 1, index 2, logged 4, plan 1, put 5, query 1, reads 2,"
        + " restore 1, roll 1, same 4, see 3, sweep 0, takeUp 1, terms 2, undo 1, units 2, why 0, work 2";

    public static void main(String[] args) throws IOException {
        String source = Files.readString(Path.of(args.length > 0 ? args[0] : "src/main/java/LateIndex.java"));
        face();
        classes();
        words(source);
        sizes(source);
        CHECK.close();
    }

    private static void isTrue(String what, boolean holds) {
        CHECK.due(what, 1, holds ? 1 : 0);
    }

    private static void face() {
        TreeSet<String> seen = new TreeSet<>();
        Set<String> publicNames = new HashSet<>();
        for (Method method : LateIndex.class.getDeclaredMethods()) {
            if (Modifier.isPublic(method.getModifiers())) {
                seen.add(method.getName() + " " + method.getParameterCount());
                publicNames.add(method.getName());
                isTrue(method + " answers an int", method.getReturnType() == int.class);
            } else {
                isTrue(method + " is private", Modifier.isPrivate(method.getModifiers()));
            }
        }
        isTrue("the face: " + seen, String.join(", ", seen).equals(FACE));
        for (Method method : LateIndex.class.getDeclaredMethods()) {
            isTrue(method + " has its own name",
                Modifier.isPublic(method.getModifiers()) || !publicNames.contains(method.getName()));
        }
        for (Field field : LateIndex.class.getDeclaredFields()) {
            isTrue(field + " is private, or NONE", Modifier.isPrivate(field.getModifiers()) || field.getName().equals("NONE"));
            isTrue(field + " static and final",
                !Modifier.isStatic(field.getModifiers()) || Modifier.isFinal(field.getModifiers()));
        }
        Constructor<?>[] constructors = LateIndex.class.getDeclaredConstructors();
        isTrue("one constructor", constructors.length == 1 && constructors[0].getParameterCount() == 0);
        isTrue("public and final", Modifier.isPublic(LateIndex.class.getModifiers())
            && Modifier.isFinal(LateIndex.class.getModifiers()));
    }

    private static void classes() {
        List<Class<?>> all = new ArrayList<>(Arrays.asList(LateIndex.class.getDeclaredClasses()));
        isTrue("at most twelve classes", all.size() + 1 <= 12);
        all.add(LateIndex.class);
        for (Class<?> one : all) {
            isTrue(one + " is static", one == LateIndex.class || Modifier.isStatic(one.getModifiers()));
            int fields = 0;
            for (Field field : one.getDeclaredFields()) {
                fields += Modifier.isStatic(field.getModifiers()) ? 0 : 1;
            }
            isTrue(one + " has at most twenty fields", fields <= 20);
            for (Method method : one.getDeclaredMethods()) {
                isTrue(method + " has at most seven parameters", method.getParameterCount() <= 7);
            }
        }
    }

    private static String withoutComments(String source) {
        return source.replaceAll("(?s)/\\*.*?\\*/", "").replaceAll("//[^\n]*", "");
    }

    private static void words(String source) {
        String code = withoutComments(source).replaceAll("\"[^\"]*\"", "\"\"");
        String[] banned = {"throw", "throws", "try", "catch", "finally", "synchronized", "assert", "import", "package",
            "protected", "volatile", "transient", "native", "equals", "hashCode", "toString", "Object", "var", "goto", "->", "::",
            "Exact", "Random", "Thread", "currentTimeMillis", "nanoTime", "getenv"};
        for (String word : banned) {
            boolean stands = Pattern.compile(Character.isLetter(word.charAt(0)) ? "\\b" + word + "\\b" : Pattern.quote(word))
                .matcher(code).find();
            isTrue("'" + word + "' doesn't stand in the class", !stands);
        }
        Matcher library = Pattern.compile("\\b(System|Math|Integer|Long|Arrays|String|StringBuilder|List|ArrayList)\\.(\\w+)")
            .matcher(code);
        Set<String> allowed = Set.of("System.arraycopy", "Math.max", "Math.min");
        while (library.find()) {
            isTrue(library.group() + " is in the library", allowed.contains(library.group()));
        }
        for (int k = 0; k < source.length(); k++) {
            if (source.charAt(k) > 126) {
                isTrue("a sign above 126 at " + k, false);
            }
        }
    }

    /** Methods stay under sixty lines; a method begins at its brace and ends where that is closed. */
    private static void sizes(String source) {
        String[] lines = source.split("\n");
        for (int k = 0; k < lines.length; k++) {
            if (!lines[k].matches(" {4}( {4})?[a-z].*\\) \\{")) {
                continue;
            }
            String indent = lines[k].replaceAll("\\S.*", "");
            int end = k;
            while (!lines[end].equals(indent + "}")) {
                end++;
            }
            isTrue("lines of " + lines[k].trim(), end - k < 60);
        }
        CHECK.due("lines are no longer than 120 signs", 0, (int) Arrays.stream(lines).filter(l -> l.length() > 120).count());
    }
}
