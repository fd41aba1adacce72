import java.io.IOException;
import java.lang.reflect.InvocationTargetException;
import java.lang.reflect.Method;
import java.lang.reflect.Modifier;
import java.net.URL;
import java.net.URLClassLoader;
import java.nio.file.Files;
import java.nio.file.Path;
import java.util.ArrayList;
import java.util.Comparator;
import java.util.List;
import java.util.regex.Matcher;
import java.util.regex.Pattern;
import java.util.stream.Stream;
import javax.tools.JavaCompiler;
import javax.tools.ToolProvider;

/**
 * README.md: its examples compile and answer what their comments say, its commands run, and it leaves out no call of
 * the face and no test of the project.
 */
public final class ReadmeTest {
    private static final Path README = Path.of("README.md");
    private static final Path TESTS = Path.of("src/test/java");
    private static final Path CI = Path.of(".ci/run");
    private static final Pattern PROGRAM = Pattern.compile("^public final class (\\w+) \\{$");
    /** A comment that begins with a number, or true or false, tells the answer of the call before it. */
    private static final String ANSWER = "\\s*// (true|false|-?\\d+(?:\\.\\d+)?)(?:[ :,].*)?$";
    private static final Pattern ANSWERED = Pattern.compile("^\\s*(\\w.*\\));" + ANSWER);
    private static final Pattern PRINTED = Pattern.compile("^\\s*System\\.out\\.println\\((.*)\\);" + ANSWER);
    private static final Pattern PATHS = Pattern.compile("`((?:\\.\\./|\\.ci/|src/)[\\w./]+)`");
    private static int asked = 0;
    private static int wrong = 0;

    private static void fault(String text) {
        wrong++;
        System.out.println("README.md: " + text);
    }

    /** Called by the examples. */
    public static void due(String call, Object got, String want) {
        asked++;
        if (!String.valueOf(got).equals(want)) fault(call + " answered " + got + ", the page says " + want);
    }

    private static List<List<String>> blocks(List<String> page, String kind) {
        List<List<String>> all = new ArrayList<>();
        List<String> open = null;
        for (String line : page) {
            if (line.startsWith("```")) {
                open = open == null ? new ArrayList<>() : null;
                if (line.equals("```" + kind)) all.add(open);
            } else if (open != null) {
                open.add(line);
            }
        }
        if (open != null) fault("a block has no end");
        return all;
    }

    private static String nameOf(List<String> block) {
        Matcher m = PROGRAM.matcher(block.get(0));
        return m.matches() ? m.group(1) : "";
    }

    // ---- Examples that stand in a method

    private static String quoted(String text) { return '"' + text.replace("\\", "\\\\").replace("\"", "\\\"") + '"'; }

    private static String inAMethod(String name, List<String> block) {
        StringBuilder code = new StringBuilder("public final class " + name + " {\n    public static void run() {\n");
        for (String line : block) {
            Matcher m = ANSWERED.matcher(line);
            if (m.matches()) line = "ReadmeTest.due(" + quoted(m.group(1)) + ", " + m.group(1) + ", " + quoted(m.group(2)) + ");";
            code.append(line).append('\n');
        }
        return code.append("    }\n}\n").toString();
    }

    private static void examples(List<String> page, Path room) throws Exception {
        JavaCompiler compiler = ToolProvider.getSystemJavaCompiler();
        if (compiler == null) throw new IllegalStateException("there is no compiler here");
        int number = 0;
        for (List<String> block : blocks(page, "java")) {
            if (!nameOf(block).isEmpty()) continue;
            number++;
            String name = "Lines" + number;
            Path source = room.resolve(name + ".java");
            Files.writeString(source, inAMethod(name, block));
            int before = asked;
            if (compiler.run(null, null, null, "-encoding", "UTF-8", "-cp", System.getProperty("java.class.path"), "-d", room.toString(), source.toString()) != 0) {
                fault("the lines of example " + number + " do not compile");
                continue;
            }
            run(room, name);
            if (asked == before) fault("the lines of example " + number + " tell no answer");
        }
    }

    private static void run(Path room, String name) throws Exception {
        try (URLClassLoader loader = new URLClassLoader(new URL[] {room.toUri().toURL()}, ReadmeTest.class.getClassLoader())) {
            loader.loadClass(name).getMethod("run").invoke(null);
        } catch (InvocationTargetException e) {
            fault(name + " threw " + e.getCause());
        }
    }

    // ---- Whole programs, and the commands

    /** A program is saved as it stands, and run by the page's own command. */
    private static void programs(List<String> page, Path room, List<String> commands) throws Exception {
        int found = 0;
        for (List<String> block : blocks(page, "java")) {
            String name = nameOf(block);
            if (name.isEmpty()) continue;
            found++;
            Files.write(room.resolve(name + ".java"), block);
            List<String> calls = new ArrayList<>();
            List<String> answers = new ArrayList<>();
            for (String line : block) {
                Matcher m = PRINTED.matcher(line);
                if (!m.matches()) continue;
                calls.add(m.group(1));
                answers.add(m.group(2));
            }
            for (String command : List.copyOf(commands)) {
                if (!command.contains(" " + name + ".java")) continue;
                commands.remove(command);
                List<String> said = output(command, room);
                if (said.size() != answers.size() || answers.isEmpty()) fault(name + " says " + said + ", the page " + answers);
                for (int k = 0; k < answers.size() && k < said.size(); k++) due(calls.get(k), said.get(k), answers.get(k));
                answers = List.of();
            }
            if (!answers.isEmpty()) fault("how " + name + " is run is not told");
        }
        if (found == 0) fault("no example is a whole program");
    }

    private static List<String> output(String command, Path room) throws Exception {
        ProcessBuilder builder = new ProcessBuilder("sh", "-c", command).directory(room.toFile()).redirectErrorStream(true);
        builder.environment().put("TMPDIR", room.toString());
        Process process = builder.start();
        process.getOutputStream().close();
        List<String> said = new String(process.getInputStream().readAllBytes()).lines().toList();
        int exit = process.waitFor();
        if (exit != 0) fault(command + " ended with " + exit + ": " + said);
        return said;
    }

    /** The command that runs all tests would run this one too: it is looked at, the others are run. */
    private static void commands(List<String> page, Path room) throws Exception {
        List<String> all = new ArrayList<>();
        for (List<String> block : blocks(page, "sh")) all.addAll(block);
        if (!all.remove(CI.toString())) fault("how all tests are run is not told");
        if (!Files.isExecutable(CI)) fault(CI + " can't be run");
        Files.createSymbolicLink(room.resolve("src"), Path.of("src").toAbsolutePath());
        programs(page, room, all);
        if (all.isEmpty()) fault("how one test is run is not told");
        for (String command : all) output(command, room);
    }

    // ---- What the page must name

    private static void noCallLeftOut(String text) {
        for (Method m : ContourSheets.class.getDeclaredMethods()) {
            if (Modifier.isPublic(m.getModifiers()) && !text.contains("`" + m.getName() + "(")) fault("nothing is said of " + m.getName());
        }
    }

    /** Each test is named, and what is named as a path is there. */
    private static void noTestLeftOut(String text) throws IOException {
        try (Stream<Path> files = Files.list(TESTS)) {
            for (Path file : (Iterable<Path>) files::iterator) {
                String name = file.getFileName().toString().replace(".java", "");
                if (!Pattern.compile("[`/]" + name + "(\\.java)?`").matcher(text).find()) fault("nothing is said of " + file);
            }
        }
        Matcher paths = PATHS.matcher(text);
        int found = 0;
        while (paths.find()) {
            found++;
            if (!Files.exists(Path.of(paths.group(1)))) fault("there is no " + paths.group(1));
        }
        if (found < 8) fault("only " + found + " paths are named");
    }

    private static void remove(Path room) throws IOException {
        try (Stream<Path> files = Files.walk(room).sorted(Comparator.reverseOrder())) {
            for (Path file : (Iterable<Path>) files::iterator) Files.delete(file);
        }
    }

    public static void main(String[] args) throws Exception {
        List<String> page = Files.readAllLines(README);
        Path room = Files.createTempDirectory("readme");
        try {
            examples(page, room);
            commands(page, room);
        } finally {
            remove(room);
        }
        noCallLeftOut(String.join("\n", page));
        noTestLeftOut(String.join("\n", page));
        if (asked < 40) fault("only " + asked + " answers are told");
        System.out.println(asked + " answers of README.md, " + wrong + " not as due");
        if (wrong != 0) System.exit(1);
    }
}
