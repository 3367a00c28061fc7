import java.io.IOException;
import java.lang.reflect.Constructor;
import java.lang.reflect.Field;
import java.lang.reflect.Method;
import java.lang.reflect.Modifier;
import java.nio.file.Files;
import java.nio.file.Path;
import java.util.ArrayList;
import java.util.Arrays;
import java.util.List;
import java.util.Map;
import java.util.Set;
import java.util.TreeMap;
import java.util.TreeSet;
import java.util.regex.Matcher;
import java.util.regex.Pattern;

/** The document's face, and the rules of LANGUAGE.md that can be seen from the class or its text. */
public final class FaceTest {
    private static final Path SOURCE = Path.of("src/main/java/SevenKeys.java");
    private static final Map<String, Integer> METHODS = new TreeMap<>(Map.ofEntries(
        Map.entry("point", 2), Map.entry("key", 2), Map.entry("next", 2), Map.entry("far", 2),
        Map.entry("side", 2), Map.entry("patch", 2), Map.entry("around", 2), Map.entry("ring", 2),
        Map.entry("put", 4), Map.entry("disk", 3), Map.entry("join", 4), Map.entry("grow", 3),
        Map.entry("has", 2), Map.entry("about", 2), Map.entry("packed", 3), Map.entry("piece", 2),
        Map.entry("way", 3), Map.entry("alike", 2), Map.entry("image", 1), Map.entry("restore", 1),
        Map.entry("count", 1)));

    private static final Check CHECK = new Check("FaceTest");

    public static void main(String[] args) throws IOException {
        constants();
        face();
        fields();
        words(codeOf(Files.readString(SOURCE)));
        methodLengths(Files.readAllLines(SOURCE));
        CHECK.end();
    }

    private static void constants() {
        CHECK.due("UNKNOWN", SevenKeys.UNKNOWN, -1);
        CHECK.due("OUTSIDE", SevenKeys.OUTSIDE, -2);
        CHECK.due("STATE", SevenKeys.STATE, -3);
        CHECK.due("NONE", SevenKeys.NONE, -6);
    }

    private static void face() {
        int modifiers = SevenKeys.class.getModifiers();
        CHECK.holds("the class is public and final", Modifier.isPublic(modifiers) && Modifier.isFinal(modifiers));
        Constructor<?>[] constructors = SevenKeys.class.getDeclaredConstructors();
        CHECK.due("constructors", constructors.length, 1);
        CHECK.due("the constructor's parameters", constructors[0].getParameterCount(), 0);
        CHECK.holds("the constructor is public", Modifier.isPublic(constructors[0].getModifiers()));
        Map<String, Integer> open = new TreeMap<>();
        for (Method method : SevenKeys.class.getDeclaredMethods()) {
            if (Modifier.isPrivate(method.getModifiers())) {
                CHECK.holds("private " + method.getName() + " bears no public name",
                    !METHODS.containsKey(method.getName()));
            } else {
                open.put(method.getName(), method.getParameterCount());
                CHECK.holds(method.getName() + " is public and answers an int",
                    Modifier.isPublic(method.getModifiers()) && method.getReturnType() == int.class
                    && !Modifier.isStatic(method.getModifiers()));
                CHECK.holds(method.getName() + " takes ints",
                    Arrays.stream(method.getParameterTypes()).allMatch(type -> type == int.class));
            }
            CHECK.holds(method.getName() + " takes at most seven", method.getParameterCount() <= 7);
        }
        CHECK.holds("the methods are the document's: " + open, open.equals(METHODS));
    }

    private static void fields() {
        Set<String> open = new TreeSet<>();
        List<Class<?>> classes = new ArrayList<>(List.of(SevenKeys.class.getDeclaredClasses()));
        for (Class<?> inside : classes) {
            int modifiers = inside.getModifiers();
            CHECK.holds(inside + " is static", Modifier.isStatic(modifiers));
            CHECK.holds(inside + " is not of the face", !Modifier.isPublic(modifiers) && !Modifier.isProtected(modifiers));
        }
        CHECK.holds("at most twelve classes", classes.size() < 12);
        for (Field field : SevenKeys.class.getDeclaredFields()) {
            if (!Modifier.isPrivate(field.getModifiers())) {
                open.add(field.getName());
                CHECK.same("how the constant is told", field.toString(),
                    "public static final int SevenKeys." + field.getName());
            }
        }
        CHECK.holds("no other open field: " + open, open.equals(Set.of("UNKNOWN", "OUTSIDE", "STATE", "NONE")));
        classes.add(SevenKeys.class);
        for (Class<?> any : classes) {
            for (Field field : any.getDeclaredFields()) {
                CHECK.holds(field + " is final if static", !Modifier.isStatic(field.getModifiers())
                    || Modifier.isFinal(field.getModifiers()));
            }
        }
    }

    private static String codeOf(String text) {
        return text.replaceAll("(?s)/\\*.*?\\*/", " ").replaceAll("//[^\n]*", " ");
    }

    private static void words(String code) {
        for (String word : List.of("throw", "throws", "try", "catch", "synchronized", "assert", "package",
            "new Object", "hashCode", "toString", "equals", "volatile", "native", "var")) {
            CHECK.holds("no '" + word + "'", !Pattern.compile("\\b" + word + "\\b").matcher(code).find());
        }
        CHECK.holds("no lambda, no method reference", !code.contains("->") && !code.contains("::"));
        CHECK.holds("no function that ends in Exact", !code.contains("Exact("));
        Matcher imports = Pattern.compile("import\\s+([\\w.*]+)").matcher(code);
        while (imports.find()) {
            CHECK.holds("import of " + imports.group(1),
                Set.of("java.util.Arrays", "java.util.ArrayList", "java.util.List").contains(imports.group(1)));
        }
        Matcher calls = Pattern.compile("\\b([A-Z]\\w*\\.\\w+)\\(").matcher(code);
        while (calls.find()) {
            CHECK.holds("call of " + calls.group(1),
                Set.of("Arrays.fill", "Math.max", "Math.min", "Math.abs").contains(calls.group(1)));
        }
        CHECK.due("static initialiser blocks", Pattern.compile("\\bstatic\\s*\\{").matcher(code).find() ? 1 : 0, 0);
    }

    /** A method runs from a line that ends in '{' to the brace that closes it at the same depth. */
    private static void methodLengths(List<String> lines) {
        for (int i = 0; i < lines.size(); i++) {
            String line = lines.get(i);
            String indent = line.substring(0, line.length() - line.stripLeading().length());
            if (line.contains("(") && line.endsWith("{") && indent.length() <= 8) {
                int end = i;
                while (end < lines.size() && !lines.get(end).equals(indent + "}")) {
                    end++;
                }
                CHECK.holds("at most sixty lines: " + line.strip(), end - i < 60);
            }
        }
    }
}
