import java.io.IOException;
import java.lang.reflect.InvocationTargetException;
import java.lang.reflect.Method;
import java.nio.file.Files;
import java.nio.file.Path;
import java.util.ArrayList;
import java.util.Arrays;
import java.util.Comparator;
import java.util.List;
import java.util.Map;
import java.util.TreeMap;

/**
 * Runs the tests that go through the document, its boundary cases above all. Each is named after its promise and
 * quotes the words of the document that it holds; those words must stand there, and no word of what the class is, of
 * the terms or of a promise may be without a test.
 */
public final class BoundaryTest {
    private static final Path DOCUMENT = Path.of("../shared/DOC.md");
    private static final int PROMISES = 19;
    private static final int TERMS = 0;
    private static final int FRAME = -1;
    private static final Class<?>[] TESTS = {WholeDocument.class, GridBoundaries.class, LineBoundaries.class, GroundBoundaries.class};

    private static List<Method> tests() {
        List<Method> all = new ArrayList<>();
        for (Class<?> c : TESTS) {
            for (Method m : c.getDeclaredMethods()) if (m.isAnnotationPresent(Boundary.Says.class)) all.add(m);
        }
        all.sort(Comparator.comparing(Method::getName));
        return all;
    }

    private static void run(Method test) throws IllegalAccessException {
        Boundary.running = test.getName();
        int before = Boundary.asked;
        try {
            test.invoke(null);
        } catch (InvocationTargetException e) {
            Boundary.fault("threw " + e.getCause());
        }
        if (Boundary.asked == before) Boundary.fault("asked nothing");
    }

    /**
     * The text of each promise by its number, that of the terms by 0, what the class is by -1, in one line each. The
     * headings of the terms, and the calls before the promises (RulesTest looks at the face), are left out.
     */
    private static Map<Integer, String> sections() throws IOException {
        Map<Integer, StringBuilder> found = new TreeMap<>();
        StringBuilder open = new StringBuilder();
        for (String line : Files.readAllLines(DOCUMENT)) {
            if (line.startsWith("## ")) {
                open = new StringBuilder();
                if (line.equals("## What it is")) found.put(FRAME, open);
                if (line.equals("## Terms")) found.put(TERMS, open);
                if (line.startsWith("## Promise ")) found.put(Integer.parseInt(line.replaceAll("## Promise (\\d+):.*", "$1")), open);
            } else if (!line.startsWith("```")) {
                open.append(' ').append(line);
            }
        }
        Map<Integer, String> sections = new TreeMap<>();
        found.forEach((number, text) -> sections.put(number, text.toString().replaceAll("==== (I\\.|II+\\. [^.]*\\.)", "")
            .replaceAll("^\\s*`[^`]*`:", "").replaceAll("\\s+", " ").trim()));
        return sections;
    }

    private static void wordsStandInTheDocument(List<Method> tests, Map<Integer, String> sections) {
        for (Method test : tests) {
            Boundary.running = test.getName();
            Boundary.Says says = test.getAnnotation(Boundary.Says.class);
            int first = says.promise()[0];
            String name = first == TERMS ? "document_" : String.format("promise%02d_", first);
            if (!test.getName().startsWith(name)) Boundary.fault("is named after another promise");
            for (String words : says.words()) {
                boolean stands = sections.get(TERMS).contains(words) || sections.get(FRAME).contains(words);
                for (int promise : says.promise()) stands = stands || sections.getOrDefault(promise, "").contains(words);
                if (!stands) Boundary.fault("the document does not say there: " + words);
            }
        }
    }

    /** The text of a section without the words that tests quote of it: a new line stands for each of their signs. */
    private static String unquoted(List<Method> tests, int section, String text) {
        char[] left = text.toCharArray();
        for (Method test : tests) {
            Boundary.Says says = test.getAnnotation(Boundary.Says.class);
            boolean here = section == TERMS || section == FRAME;
            for (int promise : says.promise()) here = here || promise == section;
            if (!here) continue;
            for (String words : says.words()) {
                for (int at = text.indexOf(words); at >= 0; at = text.indexOf(words, at + 1)) Arrays.fill(left, at, at + words.length(), '\n');
            }
        }
        return new String(left);
    }

    private static void noWordWithoutATest(List<Method> tests, Map<Integer, String> sections) {
        Boundary.running = "the document";
        int words = 0;
        for (Map.Entry<Integer, String> section : sections.entrySet()) {
            words += section.getValue().split(" ").length;
            for (String rest : unquoted(tests, section.getKey(), section.getValue()).split("\n+")) {
                if (rest.matches(".*\\w.*")) Boundary.fault("no test for: " + rest.trim());
            }
        }
        if (sections.size() != PROMISES + 2 || words < 1000) Boundary.fault(sections.size() + " sections with " + words + " words");
    }

    public static void main(String[] args) throws Exception {
        List<Method> tests = tests();
        for (Method test : tests) run(test);
        if (Files.exists(DOCUMENT)) {
            Map<Integer, String> sections = sections();
            wordsStandInTheDocument(tests, sections);
            noWordWithoutATest(tests, sections);
        } else {
            System.out.println("the document was not found: the words that tests quote were not looked up");
        }
        System.out.println(tests.size() + " tests of the document, " + Boundary.asked + " answers, " + Boundary.wrong + " not as due");
        if (Boundary.wrong != 0) System.exit(1);
    }
}
