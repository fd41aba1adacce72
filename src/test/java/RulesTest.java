import com.sun.management.ThreadMXBean;
import java.io.IOException;
import java.lang.management.ManagementFactory;
import java.lang.reflect.Array;
import java.lang.reflect.Constructor;
import java.lang.reflect.Field;
import java.lang.reflect.InvocationTargetException;
import java.lang.reflect.Method;
import java.lang.reflect.Modifier;
import java.nio.file.Files;
import java.nio.file.Path;
import java.util.ArrayDeque;
import java.util.ArrayList;
import java.util.Collections;
import java.util.Deque;
import java.util.IdentityHashMap;
import java.util.List;
import java.util.Random;
import java.util.Set;
import java.util.TreeSet;
import java.util.regex.Matcher;
import java.util.regex.Pattern;

/** What holds for all promises together: the face, no throw for any arguments, little room, and the language's rules. */
public final class RulesTest {
    private static final String FACE = """
        public ContourSheets()
        public static final int NONE
        public boolean spacing(int,int)
        public boolean row(int,int,int,int)
        public boolean height(int,int,int,int)
        public boolean missing(int,int,int)
        public int at(int,int,int)
        public int level(int)
        public void levels()
        public int contour(int)
        public int line(int,int)
        public int side(int,int)
        public long place(int,int,int)
        public int inside(int,int,int)
        public int point(int,int,int,int)
        public int count(int,int)
        public long volume(int,int,int)
        public int seen(int,int,int,int,int,int)
        public boolean smooth(int,int,int)
        public int difference(int,int,int)
        """;
    private static final Path DOCUMENT = Path.of("../shared/DOC.md");
    private static final ThreadMXBean BEAN = (ThreadMXBean) ManagementFactory.getThreadMXBean();
    private static final long THREAD = Thread.currentThread().getId();
    private static int wrong = 0;

    private static void fault(String text) {
        wrong++;
        System.out.println(text);
    }

    private static void face() throws IOException {
        Class<?> c = ContourSheets.class;
        Set<String> got = new TreeSet<>();
        for (Constructor<?> m : c.getDeclaredConstructors()) if (!Modifier.isPrivate(m.getModifiers())) got.add(m.toString());
        for (Method m : c.getDeclaredMethods()) {
            if (!Modifier.isPrivate(m.getModifiers())) got.add(m.toString().replace("ContourSheets.", ""));
        }
        for (Field f : c.getDeclaredFields()) {
            if (!Modifier.isPrivate(f.getModifiers())) got.add(f.toString().replace("ContourSheets.", ""));
        }
        Set<String> want = new TreeSet<>(FACE.lines().toList());
        if (!got.equals(want)) fault("the face is " + got + ", due is " + want);
        if (Files.exists(DOCUMENT) && !faceOfTheDocument().equals(want)) fault("the document's face is " + faceOfTheDocument());
        if (!Modifier.isFinal(c.getModifiers()) || !Modifier.isPublic(c.getModifiers())) fault("the class is not public and final");
        Set<String> names = new TreeSet<>();
        for (Method m : c.getDeclaredMethods()) if (Modifier.isPublic(m.getModifiers())) names.add(m.getName());
        for (Class<?> in : c.getDeclaredClasses()) {
            if (!Modifier.isStatic(in.getModifiers())) fault(in + " is not static");
            for (Method m : in.getDeclaredMethods()) if (names.contains(m.getName())) fault(m + " bears a public name");
        }
    }

    /** The lines under "The public face", written as reflection writes them: types without the parameters' names. */
    private static Set<String> faceOfTheDocument() throws IOException {
        Set<String> face = new TreeSet<>();
        boolean open = false;
        for (String line : Files.readAllLines(DOCUMENT)) {
            if (line.startsWith("## ")) open = line.equals("## The public face");
            if (open && line.startsWith("    public ")) {
                face.add(line.trim().replaceAll(" = .*", "").replaceAll("(int|long|boolean) \\w+(?=[,)])", "$1").replace(", ", ",").replace(";", ""));
            }
        }
        return face;
    }

    private static void anyArguments() throws IllegalAccessException {
        int[] ends = {Integer.MIN_VALUE, Integer.MIN_VALUE + 1, -8193, -1, 0, 0, 1, 1, 2, 3, 4, 5, 6, 16, 31, 32, 39, 40,
            399, 400, 1000, 1279, 1280, 2560, 8000, 8192, 8193, 100000, 1092616192, Integer.MAX_VALUE - 1, Integer.MAX_VALUE};
        Random dice = new Random(7);
        Method[] all = ContourSheets.class.getDeclaredMethods();
        java.util.Arrays.sort(all, (p, q) -> p.toString().compareTo(q.toString()));
        for (int run = 0; run < 200; run++) {
            ContourSheets x = new ContourSheets();
            for (int i = 0; i < 5; i++) {
                x.row(0, i, 5, 0);
                for (int j = 0; j < 5; j++) x.height(0, i, j, Float.floatToRawIntBits(dice.nextInt(8)));
            }
            for (int n = 0; n < 480; n++) {
                Method m = all[dice.nextInt(all.length)];
                if (!Modifier.isPublic(m.getModifiers())) continue;
                Object[] a = new Object[m.getParameterCount()];
                for (int k = 0; k < a.length; k++) a[k] = dice.nextInt(3) > 0 ? dice.nextInt(5) : ends[dice.nextInt(ends.length)];
                try {
                    m.invoke(x, a);
                } catch (InvocationTargetException e) {
                    fault(m + java.util.Arrays.toString(a) + " threw " + e.getCause());
                }
            }
        }
    }

    /** The room of one run: what an object's constructor makes, and what its calls make, which is nothing. */
    private static void room() throws IllegalAccessException {
        ContourSheets x = new ContourSheets();
        long[] made = counted(x);
        if (made[0] > 50) fault("a new object is made of " + made[0] + " objects and arrays");
        if (made[1] > 27000) fault("a new object has " + made[1] + " fields and elements");
        callAll(x);
        long[] later = counted(x);
        if (made[0] != later[0] || made[1] != later[1]) {
            fault("calls made an object of " + made[1] + " fields and elements into one of " + later[1]);
        }
    }

    /** The objects and arrays that an object holds, itself too, and their fields and elements. */
    private static long[] counted(Object root) throws IllegalAccessException {
        Set<Object> known = Collections.newSetFromMap(new IdentityHashMap<>());
        Deque<Object> open = new ArrayDeque<>();
        known.add(root);
        open.add(root);
        long places = 0;
        while (!open.isEmpty()) {
            Object at = open.remove();
            List<Object> held = new ArrayList<>();
            if (at.getClass().isArray()) {
                places += Array.getLength(at);
                if (at instanceof Object[] all) held.addAll(java.util.Arrays.asList(all));
            } else {
                for (Field f : at.getClass().getDeclaredFields()) {
                    if (Modifier.isStatic(f.getModifiers())) continue;
                    places++;
                    f.setAccessible(true);
                    if (!f.getType().isPrimitive()) held.add(f.get(at));
                }
            }
            for (Object o : held) if (o != null && known.add(o)) open.add(o);
        }
        return new long[] {known.size(), places};
    }

    /** No call takes any of the heap: also not the first contour, or any first call, of a new object. */
    private static void nothingMade() {
        for (int n = 0; n < 20; n++) callAll(new ContourSheets());
        long least = Long.MAX_VALUE;
        for (int n = 0; n < 20; n++) {
            ContourSheets x = new ContourSheets();
            long before = BEAN.getThreadAllocatedBytes(THREAD);
            callAll(x);
            least = Math.min(least, BEAN.getThreadAllocatedBytes(THREAD) - before);
        }
        // The least of many: what the machine itself may take now and then is not the class's.
        if (least > 0) fault("the calls on a new object took " + least + " bytes");
        long before = BEAN.getThreadAllocatedBytes(THREAD);
        ContourSheets y = new ContourSheets();
        long taken = BEAN.getThreadAllocatedBytes(THREAD) - before;
        if (taken < 4 * 8000 || y.contour(0) != 0) fault("bytes are not counted here: " + taken);
    }

    /** Every call of the face, right and wrong, 485 calls in all. */
    private static void callAll(ContourSheets x) {
        x.contour(0);
        x.levels();
        for (int i = 0; i < 16; i++) {
            x.row(0, i, 16, 0);
            for (int j = 0; j < 16; j++) x.height(0, i, j, (127 + (i * 7 + j * 5) % 13) << 23);
        }
        for (int v = 0; v < 16; v++) x.level(1 << v % 14);
        for (int n = -1; n < 4; n++) {
            x.spacing(n, 7);
            x.contour(n);
            x.contour(0);
            x.smooth(0, n, 3);
            x.difference(0, 1, n);
            for (int what = -1; what <= 7; what++) {
                x.line(n, what);
                x.point(0, n + 2, n + 2, what);
                x.count(n, what);
            }
            x.side(n, 0);
            x.place(n, 0, 0);
            x.inside(n, 3, 3);
            x.volume(0, 3, n);
            x.seen(0, 0, 0, 15, n, 3);
            x.at(0, n, n);
            x.missing(0, 15, n);
        }
    }

    private static final Pattern HEAD = Pattern.compile("^ +(?:[\\w<>\\[\\]]+ )*(\\w+)\\([^()]*\\) \\{$");
    private static final Pattern INNER = Pattern.compile("\\bclass (\\w+)");

    /** Rows are made in constructors alone. */
    private static void newOnlyInConstructors(String code) {
        String inner = "";
        String head = "";
        int found = 0;
        for (String line : code.split("\n")) {
            Matcher c = INNER.matcher(line);
            Matcher h = HEAD.matcher(line);
            if (c.find()) {
                inner = c.group(1);
                head = "";
            } else if (h.find() && !line.matches("^ +(if|for|while|switch|\\} else if) .*")) {
                head = h.group(1);
            }
            if (Pattern.compile("\\bnew\\b").matcher(line).find()) {
                found++;
                if (!head.equals(inner)) fault("made outside of a constructor, in " + head + ":" + line);
            }
            if (Pattern.compile("\\.clone\\(|copyOf|StringBuilder|List|values\\(").matcher(line).find()) fault("makes a copy:" + line);
        }
        if (found < 20) fault("only " + found + " times new was found");
    }

    private static void language() throws IOException {
        String source = Files.readString(Path.of("src/main/java/ContourSheets.java"));
        String code = source.replaceAll("(?s)/\\*.*?\\*/", "").replaceAll("//.*", "");
        String[] never = {"\\bcatch\\b", "\\btry\\b", "\\bthrow\\b", "->", "::", "\\bfloat\\b", "\\bdouble\\b", "Exact\\b",
            "\\bsynchronized\\b", "\\bassert\\b", "\\bprotected\\b", "\\bpackage\\b", "static \\{", "\\bFloat\\.", "\\bDouble\\.", "\\bSystem\\.(?!arraycopy)"};
        newOnlyInConstructors(code);
        for (String p : never) if (Pattern.compile(p).matcher(code).find()) fault("the source has " + p);
        for (char c : source.toCharArray()) if (c > 126) fault("the source has the sign " + (int) c);
        Matcher imports = Pattern.compile("import (\\S+);").matcher(code);
        while (imports.find()) if (!imports.group(1).equals("java.util.Arrays")) fault("imports " + imports.group(1));
        Matcher heads = Pattern.compile("(?m)^ +(?!return|else|new)[\\w<>\\[\\] ]+ \\w+\\(([^()]*)\\) \\{$").matcher(code);
        int methods = 0;
        while (heads.find()) {
            methods++;
            if (heads.group(1).split(",").length > 7) fault("too many parameters: " + heads.group());
            String indent = heads.group().replaceAll("(?s)^( +).*", "$1");
            int end = code.indexOf("\n" + indent + "}", heads.start());
            if (code.substring(heads.start(), end).lines().count() > 60) fault("too long: " + heads.group());
        }
        if (methods < 60) fault("only " + methods + " methods were found");
    }

    public static void main(String[] args) throws Exception {
        face();
        anyArguments();
        room();
        nothingMade();
        language();
        System.out.println(wrong + " rules broken");
        if (wrong != 0) System.exit(1);
    }
}
