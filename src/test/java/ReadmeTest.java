import java.io.File;
import java.io.IOException;
import java.lang.reflect.InvocationTargetException;
import java.lang.reflect.Method;
import java.net.URL;
import java.net.URLClassLoader;
import java.nio.file.Files;
import java.nio.file.Path;
import java.util.ArrayList;
import java.util.Comparator;
import java.util.List;
import java.util.TreeSet;
import java.util.regex.Matcher;
import java.util.regex.Pattern;
import java.util.stream.Stream;
import javax.tools.ToolProvider;

/** README.md: its calls, compiled as they stand there, answer what it says; it names every call and every test. */
public final class ReadmeTest extends Check {
    private static final Pattern CALL = Pattern.compile("^(x\\..*\\));\\s*// (-?\\d+|throws \\w+)(:.*)?$");
    private static final Pattern BLOCK = Pattern.compile("```java\n(.*?)```", Pattern.DOTALL);

    private static final List<String> WANTED = new ArrayList<>();
    private static final List<String> LINES = new ArrayList<>();

    public static void main(String[] args) throws Exception {
        current = "README.md";
        String page = Files.readString(Path.of("README.md"));
        List<String> blocks = new ArrayList<>();
        for (Matcher block = BLOCK.matcher(page); block.find();) blocks.add(block.group(1));
        due("blocks of Java: the helper and the calls", blocks.size(), 2);
        if (blocks.size() == 2) calls(blocks.get(0), blocks.get(1));
        due("the command that runs all tests", page.contains("```sh\n.ci/run\n```") ? 1 : 0, 1);
        due("it can be run", Files.isExecutable(Path.of(".ci/run")) ? 1 : 0, 1);
        names(page);
        end("README.md says what is so");
    }

    private static void calls(String helper, String block) throws Exception {
        StringBuilder asked = new StringBuilder();
        // What is refused ends a run of the block as it stands; that it compiles is what is asked of it here.
        StringBuilder source = new StringBuilder("public final class Page {\n").append(helper)
            .append("static void asItStands() {\n").append(block).append("}\n");
        for (String line : block.split("\n")) {
            Matcher call = CALL.matcher(line);
            if (!call.matches()) {
                due("a line that is no call with an answer", line.matches("|//.*|TakerTown x = new TakerTown\\(\\);") ? "" : line, "");
                asked.append(line).append('\n');
                continue;
            }
            LINES.add(line);
            WANTED.add(call.group(2));
            asked.append("try { all.add(\"\" + ").append(call.group(1)).append("); } ")
                .append("catch (RuntimeException e) { all.add(\"throws \" + e.getClass().getSimpleName()); }\n");
        }
        source.append("public static java.util.List<String> answers() {\n")
            .append("java.util.List<String> all = new java.util.ArrayList<>();\n")
            .append(asked).append("return all;\n}\n}\n");
        compare(run(source.toString()));
    }

    private static void compare(List<?> got) {
        due("calls", LINES.size() > 20 ? 1 : 0, 1);
        due("answers", got.size(), WANTED.size());
        for (int i = 0; i < Math.min(got.size(), WANTED.size()); i++) due(LINES.get(i), "" + got.get(i), WANTED.get(i));
    }

    private static List<?> run(String source) throws Exception {
        Path room = Files.createTempDirectory("readme");
        try {
            Path file = room.resolve("Page.java");
            Files.writeString(file, source);
            String known = System.getProperty("java.class.path");
            int failed = ToolProvider.getSystemJavaCompiler().run(null, null, null, "-proc:none", "-cp", known,
                "-d", room.toString(), file.toString());
            due("the page's calls compile", failed, 0);
            if (failed != 0) return List.of();
            try (URLClassLoader loader = new URLClassLoader(new URL[] {room.toUri().toURL()})) {
                return (List<?>) loader.loadClass("Page").getMethod("answers").invoke(null);
            } catch (InvocationTargetException e) {
                due("the page's calls", "" + e.getCause(), "");
                return List.of();
            }
        } finally {
            clear(room);
        }
    }

    private static void clear(Path room) throws IOException {
        try (Stream<Path> all = Files.walk(room)) {
            all.sorted(Comparator.reverseOrder()).map(Path::toFile).forEach(File::delete);
        }
    }

    private static void names(String page) {
        for (Method m : TakerTown.class.getDeclaredMethods()) {
            if ((m.getModifiers() & java.lang.reflect.Modifier.PUBLIC) == 0) continue;
            due(m.getName() + " is named", page.contains("`" + m.getName() + "`") ? 1 : 0, 1);
        }
        TreeSet<String> named = new TreeSet<>();
        Matcher test = Pattern.compile("^- `(\\w+Test)`:", Pattern.MULTILINE).matcher(page);
        while (test.find()) named.add(test.group(1));
        TreeSet<String> there = new TreeSet<>();
        String[] files = new File("src/test/java").list();
        for (String file : files == null ? new String[0] : files) {
            if (file.endsWith("Test.java")) there.add(file.substring(0, file.length() - 5));
        }
        due("tests that are named", "" + named, "" + there);
    }
}
