import java.lang.reflect.Array;
import java.lang.reflect.Constructor;
import java.lang.reflect.Field;
import java.lang.reflect.Method;
import java.lang.reflect.Modifier;
import java.nio.file.Files;
import java.nio.file.Path;
import java.util.ArrayList;
import java.util.Arrays;
import java.util.IdentityHashMap;
import java.util.List;
import java.util.Map;
import java.util.TreeSet;
import java.util.regex.Matcher;
import java.util.regex.Pattern;

/** The face is the document's, and the source keeps to the rules of the language that a reader can count. */
public final class FaceTest {
    private static int wrong = 0, passed = 0;

    public static void main(String[] args) throws Exception {
        Path root = Path.of(args[0]);
        face(Files.readString(root.resolve("../shared/DOC.md")));
        rules(Files.readString(root.resolve("src/main/java/SetAgain.java")));
        inside();
        room();
        System.out.println("FaceTest: " + passed + " passed, " + wrong + " failed");
        if (wrong != 0) System.exit(1);
    }

    private static void due(String what, Object got, Object want) {
        if (got.equals(want)) {
            passed++;
            return;
        }
        wrong++;
        System.out.println(what + " is " + got + ", due is " + want);
    }

    private static void face(String doc) {
        String block = doc.substring(doc.indexOf("```java"), doc.indexOf("```", doc.indexOf("```java") + 3));
        TreeSet<String> told = new TreeSet<>(), found = new TreeSet<>();
        Matcher m = Pattern.compile("public (int|long) (\\w+)\\(([^)]*)\\);").matcher(block);
        while (m.find()) told.add(m.group(1) + " " + m.group(2) + "(" + m.group(3).replaceAll(" \\w+(,|$)", "$1") + ")");
        for (Method method : SetAgain.class.getDeclaredMethods()) {
            if (Modifier.isPrivate(method.getModifiers())) {
                due("private " + method.getName(), told.toString().contains(" " + method.getName() + "("), false);
                continue;
            }
            due(method + "'s modifiers", method.getModifiers(), Modifier.PUBLIC);
            String types = Arrays.toString(method.getParameterTypes()).replaceAll("[\\[\\]]", "");
            found.add(method.getReturnType() + " " + method.getName() + "(" + types + ")");
        }
        due("the face", found.toString(), told.toString());
        due("calls", found.size(), 40);
        for (Field field : SetAgain.class.getDeclaredFields()) {
            boolean constant = List.of("BAD", "NOT", "FULL", "STATE", "VOID").contains(field.getName());
            due(field.getName() + " is private", Modifier.isPrivate(field.getModifiers()), !constant);
            due(field.getName() + " is final", Modifier.isFinal(field.getModifiers()), true);
        }
        Constructor<?>[] made = SetAgain.class.getDeclaredConstructors();
        due("constructors", made.length, 1);
        due("the constructor", Modifier.isPublic(made[0].getModifiers()), true);
        due("final", Modifier.isFinal(SetAgain.class.getModifiers()), true);
    }

    private static void rules(String source) {
        String code = source.replaceAll("(?s)/\\*.*?\\*/", "").replaceAll("//[^\n]*", "");
        String[] barred = {"throw", "try", "catch", "synchronized", "assert", "import", "package", "->", "::", "\"", "instanceof",
            "protected", "float", "double", "Exact\\(", "while", "equals", "hashCode", "toString", "System\\.(?!arraycopy)"};
        for (String word : barred) {
            Matcher m = Pattern.compile(word.matches("\\w+") ? "\\b" + word + "\\b" : word).matcher(code);
            due("«" + word + "» there", m.find(), false);
        }
        for (char sign : source.toCharArray()) {
            if (sign > 127) due("a sign above 127", (int) sign, 0);
        }
        due("some twelve classes", code.split("\\bclass\\b").length - 1 <= 13, true);
        for (String line : code.split("\n")) {
            boolean made = line.contains(" new ");
            due("made but once: " + line, made && !line.contains("final ") && !line.contains("new Shelf()"), false);
        }
        library(code);
        methods(code.split("\n"));
    }

    /** Of classes that are not the file's own: these, and of them functions alone (rule 4). */
    private static void library(String code) {
        Matcher m = Pattern.compile("\\b([A-Z]\\w*[a-z]\\w*)\\.(\\w+\\b\\(?)").matcher(code);
        int uses = 0;
        while (m.find()) {
            if (code.contains("class " + m.group(1) + " ")) continue;
            boolean told = m.group().matches("(Math|Integer|Long)\\.\\w+\\(|System\\.arraycopy\\(");
            due(m.group() + " is told by the rules", told, true);
            uses++;
        }
        due("uses were found", uses > 10, true);
    }

    /** Rules 1, 2, 5, 11 of each class of the file. */
    private static void inside() {
        List<String> calls = new ArrayList<>();
        for (Method method : SetAgain.class.getDeclaredMethods()) {
            if (Modifier.isPublic(method.getModifiers())) calls.add(method.getName());
        }
        List<Class<?>> all = new ArrayList<>(List.of(SetAgain.class.getDeclaredClasses()));
        for (Class<?> one : all) due(one + " is static", Modifier.isStatic(one.getModifiers()), true);
        all.add(SetAgain.class);
        for (Class<?> one : all) {
            due("classes inside " + one, one.getDeclaredClasses().length == 0 || one == SetAgain.class, true);
            int fields = 0;
            for (Field field : one.getDeclaredFields()) {
                if (!Modifier.isStatic(field.getModifiers())) fields++;
                else due(field + " is constant", isConstant(field), true);
            }
            due(one + " has few fields", fields <= 20, true);
            for (Method method : one.getDeclaredMethods()) {
                boolean bears = Modifier.isPrivate(method.getModifiers()) && calls.contains(method.getName());
                due(method + " bears a call's name", bears, false);
            }
        }
    }

    private static boolean isConstant(Field field) {
        String type = field.getType().getSimpleName();
        return Modifier.isFinal(field.getModifiers()) && type.matches("int|long|boolean|char|String|(int|long|char|byte)\\[\\]");
    }

    /** All that an object holds, in objects and in fields and elements: a run's room is shared by all of it. */
    private static void room() throws Exception {
        Map<Object, Boolean> seen = new IdentityHashMap<>();
        int held = holds(new SetAgain(), seen);
        due(seen.size() + " objects are few", seen.size() <= 100, true);
        due(held + " fields and elements are few", held <= 6000, true);
    }

    private static int holds(Object one, Map<Object, Boolean> seen) throws Exception {
        if (one == null || seen.put(one, true) != null) return 0;
        if (one instanceof Object[] all) {
            int held = all.length;
            for (Object part : all) held += holds(part, seen);
            return held;
        }
        if (one.getClass().isArray()) return Array.getLength(one);
        int held = 0;
        for (Field field : one.getClass().getDeclaredFields()) {
            if (Modifier.isStatic(field.getModifiers())) continue;
            field.setAccessible(true);
            held += 1 + (field.getType().isPrimitive() ? 0 : holds(field.get(one), seen));
        }
        return held;
    }

    private static void methods(String[] lines) {
        Pattern head = Pattern.compile("^ +(?:[\\w\\[\\]]+ )*(\\w+)\\(([^)]*)\\) \\{$");
        List<String> names = new ArrayList<>();
        for (int i = 0; i < lines.length; i++) {
            Matcher m = head.matcher(lines[i]);
            if (!m.find() || m.group(1).matches("if|for|switch|while")) continue;
            String indent = lines[i].replaceAll("\\S.*", "");
            int end = i;
            while (!lines[end].equals(indent + "}")) end++;
            due(m.group(1) + " has few lines", end - i <= 60, true);
            due(m.group(1) + " has few parameters", m.group(2).split(",").length <= 7, true);
            names.add(m.group(1));
        }
        due("methods were found", names.size() > 100, true);
    }
}
