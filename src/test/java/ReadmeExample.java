import java.io.ByteArrayOutputStream;
import java.io.PrintStream;
import java.lang.reflect.Method;
import java.lang.reflect.Modifier;
import java.net.URL;
import java.net.URLClassLoader;
import java.nio.charset.StandardCharsets;
import java.nio.file.Files;
import java.nio.file.Path;
import java.util.ArrayList;
import java.util.Comparator;
import java.util.List;
import java.util.regex.Matcher;
import java.util.regex.Pattern;
import java.util.stream.Collectors;
import java.util.stream.Stream;
import javax.tools.ToolProvider;

/** README.md: its example prints what stands behind each line; it misses no call and no test. Run from the project's folder. */
public final class ReadmeExample {
    private static final Check check = new Check();

    private static List<String> blocks(String page, String language) {
        return Pattern.compile("(?s)\n```" + language + "\n(.*?)\n```\n").matcher(page).results().map(r -> r.group(1)).collect(Collectors.toList());
    }

    /** What the example says it prints: the first word behind the // of each line that prints. */
    private static List<String> said(String example) {
        List<String> said = new ArrayList<>();
        for (String line : example.split("\n")) {
            if (line.contains("System.out.println")) {
                Matcher m = Pattern.compile(";\\s*// (-?\\d+|true|false)(:.*)?$").matcher(line);
                check.due("README says what is printed by " + line.trim(), m.find(), true);
                said.add(m.reset().find() ? m.group(1) : "");
            }
        }
        return said;
    }

    private static List<String> printed(String example, Path folder) throws Exception {
        Path file = folder.resolve("Example.java");
        Files.writeString(file, example);
        int compiled = ToolProvider.getSystemJavaCompiler().run(null, null, null, "-Xlint:all", "-Werror", "-d", folder.toString(),
            "src/main/java/UprightFair.java", file.toString());
        check.due("README's example compiles", compiled, 0);
        if (compiled != 0) {
            return List.of();
        }
        ByteArrayOutputStream bytes = new ByteArrayOutputStream();
        PrintStream screen = System.out;
        // Without a parent that has the tests: the example is to need nothing but the class.
        try (URLClassLoader loader = new URLClassLoader(new URL[] {folder.toUri().toURL()}, ClassLoader.getPlatformClassLoader())) {
            System.setOut(new PrintStream(bytes, true, StandardCharsets.UTF_8));
            loader.loadClass("Example").getMethod("main", String[].class).invoke(null, (Object) new String[0]);
        } finally {
            System.setOut(screen);
        }
        return bytes.toString(StandardCharsets.UTF_8).lines().collect(Collectors.toList());
    }

    private static void delete(Path folder) throws Exception {
        try (Stream<Path> all = Files.walk(folder)) {
            for (Path p : all.sorted(Comparator.reverseOrder()).collect(Collectors.toList())) {
                Files.delete(p);
            }
        }
    }

    private static void example(String page) throws Exception {
        List<String> programs = blocks(page, "java");
        check.due("README's examples", programs.size(), 1);
        Path folder = Files.createTempDirectory("readme");
        try {
            for (String program : programs) {
                List<String> said = said(program);
                List<String> printed = printed(program, folder);
                check.due("lines that README's example prints", printed.size(), said.size());
                for (int i = 0; i < Math.min(said.size(), printed.size()); i++) {
                    check.due("line " + i + " of README's example: " + printed.get(i) + ", said is " + said.get(i), printed.get(i).equals(said.get(i)), true);
                }
            }
        } finally {
            delete(folder);
        }
    }

    private static void tables(String page) throws Exception {
        for (Method m : UprightFair.class.getDeclaredMethods()) {
            if (Modifier.isPublic(m.getModifiers())) {
                check.due("README names " + m.getName(), Pattern.compile("\n\\| [^|]*`" + m.getName() + "`[^|]* \\|").matcher(page).find(), true);
            }
        }
        try (Stream<Path> files = Files.list(Path.of("src/test/java"))) {
            for (Path file : files.collect(Collectors.toList())) {
                String name = file.getFileName().toString().replace(".java", "");
                boolean isTest = Files.readString(file).contains("public static void main");
                check.due("README tells of the test " + name, page.contains("\n| `" + name + "` | "), isTest);
            }
        }
    }

    /** How to run the tests: the script, which is there and may be run, and one test by itself. */
    private static void commands(String page) {
        List<String> commands = blocks(page, "sh");
        check.due("README tells how to run all tests", commands.contains(".ci/run"), true);
        check.due(".ci/run may be run", Files.isExecutable(Path.of(".ci/run")), true);
        check.due("README tells how to run one test", commands.stream().anyMatch(c -> c.contains("src/test/java/*.java") && c.contains("java -cp out PromiseTests")), true);
        for (String command : commands) {
            Matcher file = Pattern.compile("(?<= )src/\\S+").matcher(command);
            while (file.find()) {
                Path path = Path.of(file.group().replace("/*.java", ""));
                check.due("README's " + file.group() + " is there", Files.exists(path), true);
            }
        }
    }

    public static void main(String[] args) throws Exception {
        String page = Files.readString(Path.of("README.md"));
        example(page);
        tables(page);
        commands(page);
        check.end("ReadmeExample");
    }
}
