import java.lang.reflect.Method;
import java.nio.file.Files;
import java.nio.file.Path;
import java.util.Arrays;
import java.util.List;
import java.util.regex.Matcher;
import java.util.regex.Pattern;
import java.util.stream.Stream;

/** What README.md tells is so: its example answers as told there, and its ways to run the tests work. */
public final class ReadmeTest {
    private static int wrong = 0, passed = 0;

    public static void main(String[] args) throws Exception {
        Path root = Path.of(args[0]);
        String readme = Files.readString(root.resolve("README.md"));
        example(readme);
        tests(root, readme);
        commands(root, readme);
        System.out.println("ReadmeTest: " + passed + " passed, " + wrong + " failed");
        if (wrong != 0) System.exit(1);
    }

    private static void due(String what, Object got, Object want) {
        if (got.equals(want)) {
            passed++;
            return;
        }
        wrong++;
        System.out.println(what + " is " + got + ", due is " + want);
    }

    /** Each call of the example, with what its comment tells first. */
    private static void example(String readme) throws Exception {
        Matcher m = Pattern.compile("(?m)^x\\.(\\w+)\\(([^)]*)\\); +// (-?\\d+)?").matcher(readme);
        SetAgain x = new SetAgain();
        int calls = 0;
        while (m.find()) {
            long got = call(x, m.group(1), m.group(2).split(", "));
            if (m.group(3) != null) due(m.group().trim(), got, Long.parseLong(m.group(3)));
            calls++;
        }
        due("calls of the example", calls, (int) readme.lines().filter(line -> line.startsWith("x.")).count());
        due("calls of the example are some", calls > 5, true);
    }

    private static long call(SetAgain x, String name, String[] with) throws Exception {
        for (Method m : SetAgain.class.getDeclaredMethods()) {
            if (!m.getName().equals(name) || m.getParameterCount() != with.length) continue;
            Object[] args = new Object[with.length];
            for (int i = 0; i < with.length; i++) {
                args[i] = m.getParameterTypes()[i] == long.class ? (Object) Long.valueOf(with[i]) : (Object) Integer.valueOf(with[i]);
            }
            return ((Number) m.invoke(x, args)).longValue();
        }
        throw new IllegalStateException("no call " + name + Arrays.toString(with));
    }

    /** Each test is told, and each that is told is there. */
    private static void tests(Path root, String readme) throws Exception {
        try (Stream<Path> files = Files.list(root.resolve("src/test/java"))) {
            for (Path file : (Iterable<Path>) files.sorted()::iterator) {
                String name = file.getFileName().toString().replace(".java", "");
                if (name.endsWith("Test")) due(name + " is told", readme.contains("- `" + name + "`"), true);
            }
        }
        Matcher m = Pattern.compile("`(\\w+Test)`").matcher(readme);
        while (m.find()) due(m.group(1) + " is there", Files.exists(root.resolve("src/test/java/" + m.group(1) + ".java")), true);
    }

    /** The lines that are set in by four are run where README.md stands alone beside the sources; .ci/run is what runs this. */
    private static void commands(Path root, String readme) throws Exception {
        due(".ci/run can be run", Files.isExecutable(root.resolve(".ci/run")), true);
        Path beside = Files.createTempDirectory("readme"), main = Files.createDirectory(beside.resolve("main"));
        Path source = root.toRealPath();
        Files.createSymbolicLink(main.resolve("src"), source.resolve("src"));
        Files.createSymbolicLink(main.resolve("README.md"), source.resolve("README.md"));
        Files.createSymbolicLink(beside.resolve("shared"), source.resolve("../shared").toRealPath());
        List<String> lines = readme.lines().filter(line -> line.startsWith("    ")).map(String::trim).toList();
        due("README.md tells .ci/run first", lines.get(0), "bash .ci/run");
        for (String line : lines.subList(1, lines.size())) due(line, run(main, line), 0);
        due("commands are some", lines.size() > 2, true);
        clear(beside);
    }

    private static int run(Path where, String line) throws Exception {
        ProcessBuilder shell = new ProcessBuilder("sh", "-c", line).directory(where.toFile());
        shell.redirectErrorStream(true);
        Process process = shell.start();
        String told = new String(process.getInputStream().readAllBytes());
        int code = process.waitFor();
        if (code != 0) System.out.println(told);
        return code;
    }

    private static void clear(Path top) throws Exception {
        List<Path> all;
        try (Stream<Path> files = Files.walk(top)) {
            all = files.sorted((a, b) -> b.getNameCount() - a.getNameCount()).toList();
        }
        for (Path file : all) Files.delete(file);
    }
}
