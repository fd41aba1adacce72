import java.io.IOException;
import java.lang.reflect.InvocationTargetException;
import java.lang.reflect.Method;
import java.lang.reflect.Modifier;
import java.net.URL;
import java.net.URLClassLoader;
import java.nio.file.Files;
import java.nio.file.Path;
import java.util.ArrayList;
import java.util.Comparator;
import java.util.List;
import java.util.regex.Matcher;
import java.util.regex.Pattern;
import java.util.stream.Stream;
import javax.tools.JavaCompiler;
import javax.tools.ToolProvider;

/**
 * README.md: its examples compile as they stand there and answer what their comments say, its commands run, and it
 * leaves out no call of the face and no test of the project.
 */
public final class ReadmeTest {
    private static final Path README = Path.of("README.md");
    private static final Path TESTS = Path.of("src/test/java");
    private static final Path CI = Path.of(".ci/run");
    /** A statement, and a comment that begins with its answer; a comment that begins otherwise tells no answer. */
    private static final Pattern ANSWERED = Pattern.compile("^\\s*(\\w.*\\));\\s*// (true|false|-?\\d+(?:\\.\\d+)?)(?:[ :,].*)?$");
    private static final Pattern PATHS = Pattern.compile("`((?:\\.\\./|\\.ci/|src/)[\\w./]+)`");
    private static int asked = 0;
    private static int wrong = 0;

    private static void fault(String text) {
        wrong++;
        System.out.println("README.md: " + text);
    }

    /** Called by the examples. */
    public static void due(String call, Object got, String want) {
        asked++;
        if (!String.valueOf(got).equals(want)) fault(call + " answered " + got + ", the page says " + want);
    }

    private static List<List<String>> blocks(List<String> page, String kind) {
        List<List<String>> all = new ArrayList<>();
        List<String> open = null;
        for (String line : page) {
            if (line.startsWith("```")) {
                open = open == null ? new ArrayList<>() : null;
                if (line.equals("```" + kind)) all.add(open);
            } else if (open != null) {
                open.add(line);
            }
        }
        if (open != null) fault("a block has no end");
        return all;
    }

    private static String quoted(String text) { return '"' + text.replace("\\", "\\\\").replace("\"", "\\\"") + '"'; }

    private static String program(String name, List<String> block) {
        StringBuilder code = new StringBuilder("public final class " + name + " {\n    public static void run() {\n");
        for (String line : block) {
            Matcher m = ANSWERED.matcher(line);
            if (m.matches()) line = "ReadmeTest.due(" + quoted(m.group(1)) + ", " + m.group(1) + ", " + quoted(m.group(2)) + ");";
            code.append(line).append('\n');
        }
        return code.append("    }\n}\n").toString();
    }

    private static void examples(List<String> page, Path room) throws Exception {
        JavaCompiler compiler = ToolProvider.getSystemJavaCompiler();
        if (compiler == null) throw new IllegalStateException("there is no compiler here");
        List<List<String>> all = blocks(page, "java");
        if (all.size() < 3) fault("only " + all.size() + " examples");
        for (int k = 0; k < all.size(); k++) {
            String name = "Example" + k;
            Path source = room.resolve(name + ".java");
            Files.writeString(source, program(name, all.get(k)));
            int before = asked;
            if (compiler.run(null, null, null, "-encoding", "UTF-8", "-cp", System.getProperty("java.class.path"), "-d", room.toString(), source.toString()) != 0) {
                fault("example " + k + " does not compile");
                continue;
            }
            run(room, name);
            if (asked == before) fault("example " + k + " tells no answer");
        }
        if (asked < 35) fault("only " + asked + " answers are told");
    }

    private static void run(Path room, String name) throws Exception {
        try (URLClassLoader loader = new URLClassLoader(new URL[] {room.toUri().toURL()}, ReadmeTest.class.getClassLoader())) {
            loader.loadClass(name).getMethod("run").invoke(null);
        } catch (InvocationTargetException e) {
            fault(name + " threw " + e.getCause());
        }
    }

    private static void noCallLeftOut(String text) {
        for (Method m : ContourSheets.class.getDeclaredMethods()) {
            if (Modifier.isPublic(m.getModifiers()) && !text.contains("`" + m.getName() + "(")) fault("nothing is said of " + m.getName());
        }
    }

    /** Each test is named, and what is named as a path is there. */
    private static void noTestLeftOut(String text) throws IOException {
        try (Stream<Path> files = Files.list(TESTS)) {
            for (Path file : (Iterable<Path>) files::iterator) {
                String name = file.getFileName().toString().replace(".java", "");
                if (!text.contains("/" + name + ".java`") && !text.contains("`" + name + "`") && !text.contains("`" + name + ".java`")) {
                    fault("nothing is said of " + file);
                }
            }
        }
        Matcher paths = PATHS.matcher(text);
        int found = 0;
        while (paths.find()) {
            found++;
            if (!Files.exists(Path.of(paths.group(1)))) fault("there is no " + paths.group(1));
        }
        if (found < 8) fault("only " + found + " paths are named");
    }

    /** The command that runs all tests runs this one too: it is looked at, the others are run. */
    private static void commands(List<String> page, Path room) throws Exception {
        List<String> all = new ArrayList<>();
        for (List<String> block : blocks(page, "sh")) all.addAll(block);
        if (!all.remove(CI.toString())) fault("how all tests are run is not told");
        if (!Files.isExecutable(CI)) fault(CI + " can't be run");
        if (all.isEmpty()) fault("how one test is run is not told");
        for (String command : all) {
            ProcessBuilder builder = new ProcessBuilder("sh", "-c", command).redirectErrorStream(true);
            builder.environment().put("TMPDIR", room.toString());
            Process process = builder.start();
            process.getOutputStream().close();
            String said = new String(process.getInputStream().readAllBytes());
            int exit = process.waitFor();
            if (exit != 0) fault(command + " ended with " + exit + ": " + said);
        }
    }

    private static void remove(Path room) throws IOException {
        try (Stream<Path> files = Files.walk(room).sorted(Comparator.reverseOrder())) {
            for (Path file : (Iterable<Path>) files::iterator) Files.delete(file);
        }
    }

    public static void main(String[] args) throws Exception {
        List<String> page = Files.readAllLines(README);
        String text = String.join("\n", page);
        Path room = Files.createTempDirectory("readme");
        try {
            examples(page, room);
            commands(page, room);
        } finally {
            remove(room);
        }
        noCallLeftOut(text);
        noTestLeftOut(text);
        System.out.println(asked + " answers of README.md, " + wrong + " not as due");
        if (wrong != 0) System.exit(1);
    }
}
