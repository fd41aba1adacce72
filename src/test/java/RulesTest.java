import com.sun.management.ThreadMXBean;
import java.lang.management.ManagementFactory;
import java.lang.reflect.Constructor;
import java.lang.reflect.Field;
import java.lang.reflect.InvocationTargetException;
import java.lang.reflect.Method;
import java.lang.reflect.Modifier;
import java.nio.file.Files;
import java.nio.file.Path;
import java.util.Random;
import java.util.Set;
import java.util.TreeSet;
import java.util.regex.Matcher;
import java.util.regex.Pattern;

/** What holds for all promises together: the face, no throw for any arguments, little room, and the language's rules. */
public final class RulesTest {
    private static final String FACE = """
        public ContourSheets()
        public static final int NONE
        public boolean spacing(int,int)
        public boolean row(int,int,int,int)
        public boolean height(int,int,int,int)
        public boolean missing(int,int,int)
        public int at(int,int,int)
        public int level(int)
        public void levels()
        public int contour(int)
        public int line(int,int)
        public int side(int,int)
        public long place(int,int,int)
        public int inside(int,int,int)
        public int point(int,int,int,int)
        public int count(int,int)
        public long volume(int,int,int)
        public int seen(int,int,int,int,int,int)
        public boolean smooth(int,int,int)
        public int difference(int,int,int)
        """;
    private static int wrong = 0;

    private static void fault(String text) {
        wrong++;
        System.out.println(text);
    }

    private static void face() {
        Class<?> c = ContourSheets.class;
        Set<String> got = new TreeSet<>();
        for (Constructor<?> m : c.getDeclaredConstructors()) if (!Modifier.isPrivate(m.getModifiers())) got.add(m.toString());
        for (Method m : c.getDeclaredMethods()) {
            if (!Modifier.isPrivate(m.getModifiers())) got.add(m.toString().replace("ContourSheets.", ""));
        }
        for (Field f : c.getDeclaredFields()) {
            if (!Modifier.isPrivate(f.getModifiers())) got.add(f.toString().replace("ContourSheets.", ""));
        }
        Set<String> want = new TreeSet<>(FACE.lines().toList());
        if (!got.equals(want)) fault("the face is " + got + ", due is " + want);
        if (!Modifier.isFinal(c.getModifiers()) || !Modifier.isPublic(c.getModifiers())) fault("the class is not public and final");
        Set<String> names = new TreeSet<>();
        for (Method m : c.getDeclaredMethods()) if (Modifier.isPublic(m.getModifiers())) names.add(m.getName());
        for (Class<?> in : c.getDeclaredClasses()) {
            if (!Modifier.isStatic(in.getModifiers())) fault(in + " is not static");
            for (Method m : in.getDeclaredMethods()) if (names.contains(m.getName())) fault(m + " bears a public name");
        }
    }

    private static void anyArguments() throws IllegalAccessException {
        int[] ends = {Integer.MIN_VALUE, Integer.MIN_VALUE + 1, -8193, -1, 0, 0, 1, 1, 2, 3, 4, 5, 6, 16, 31, 32, 39, 40,
            399, 400, 1000, 1279, 1280, 2560, 8000, 8192, 8193, 100000, 1092616192, Integer.MAX_VALUE - 1, Integer.MAX_VALUE};
        Random dice = new Random(7);
        Method[] all = ContourSheets.class.getDeclaredMethods();
        java.util.Arrays.sort(all, (p, q) -> p.toString().compareTo(q.toString()));
        for (int run = 0; run < 200; run++) {
            ContourSheets x = new ContourSheets();
            for (int i = 0; i < 5; i++) {
                x.row(0, i, 5, 0);
                for (int j = 0; j < 5; j++) x.height(0, i, j, Float.floatToRawIntBits(dice.nextInt(8)));
            }
            for (int n = 0; n < 480; n++) {
                Method m = all[dice.nextInt(all.length)];
                if (!Modifier.isPublic(m.getModifiers())) continue;
                Object[] a = new Object[m.getParameterCount()];
                for (int k = 0; k < a.length; k++) a[k] = dice.nextInt(3) > 0 ? dice.nextInt(5) : ends[dice.nextInt(ends.length)];
                try {
                    m.invoke(x, a);
                } catch (InvocationTargetException e) {
                    fault(m + java.util.Arrays.toString(a) + " threw " + e.getCause());
                }
            }
        }
    }

    /** Bytes bound the room from above: no field or element takes less than one. */
    private static void room() {
        ThreadMXBean bean = (ThreadMXBean) ManagementFactory.getThreadMXBean();
        long thread = Thread.currentThread().getId();
        ContourSheets x = new ContourSheets();
        for (int i = 0; i < 20; i++) {
            x.row(0, i, 20, 0);
            for (int j = 0; j < 20; j++) x.height(0, i, j, Float.floatToRawIntBits((i * 7 + j * 5) % 13));
        }
        for (int v = 0; v < 16; v++) x.level(v);
        x.contour(0);
        bean.getThreadAllocatedBytes(thread);
        long before = bean.getThreadAllocatedBytes(thread);
        for (int n = 0; n < 20; n++) {
            x.contour(0);
            x.smooth(0, 1, 3);
            x.difference(0, 1, 2);
            for (int what = 0; what <= 6; what++) {
                x.line(n, what);
                x.point(0, n, n, what);
                x.count(0, what);
            }
            x.place(n, 0, 0);
            x.inside(n, 3, 3);
            x.volume(0, 3, 0);
            x.seen(0, 0, 0, 19, n, 3);
        }
        long used = bean.getThreadAllocatedBytes(thread) - before;
        if (used > 4096) fault("calls took " + used + " bytes, though the room is made beforehand");
        before = bean.getThreadAllocatedBytes(thread);
        new ContourSheets().contour(0);
        used = bean.getThreadAllocatedBytes(thread) - before;
        if (used > 200000) fault("a new object took " + used + " bytes");
    }

    private static void language() throws java.io.IOException {
        String source = Files.readString(Path.of("src/main/java/ContourSheets.java"));
        String code = source.replaceAll("(?s)/\\*.*?\\*/", "").replaceAll("//.*", "");
        String[] never = {"\\bcatch\\b", "\\btry\\b", "\\bthrow\\b", "->", "::", "\\bfloat\\b", "\\bdouble\\b", "Exact\\b",
            "\\bsynchronized\\b", "\\bassert\\b", "\\bprotected\\b", "\\bpackage\\b", "static \\{", "\\bFloat\\.", "\\bDouble\\.", "\\bSystem\\.(?!arraycopy)"};
        for (String p : never) if (Pattern.compile(p).matcher(code).find()) fault("the source has " + p);
        for (char c : source.toCharArray()) if (c > 126) fault("the source has the sign " + (int) c);
        Matcher imports = Pattern.compile("import (\\S+);").matcher(code);
        while (imports.find()) if (!imports.group(1).equals("java.util.Arrays")) fault("imports " + imports.group(1));
        Matcher heads = Pattern.compile("(?m)^ +(?!return|else|new)[\\w<>\\[\\] ]+ \\w+\\(([^()]*)\\) \\{$").matcher(code);
        int methods = 0;
        while (heads.find()) {
            methods++;
            if (heads.group(1).split(",").length > 7) fault("too many parameters: " + heads.group());
            String indent = heads.group().replaceAll("(?s)^( +).*", "$1");
            int end = code.indexOf("\n" + indent + "}", heads.start());
            if (code.substring(heads.start(), end).lines().count() > 60) fault("too long: " + heads.group());
        }
        if (methods < 60) fault("only " + methods + " methods were found");
    }

    public static void main(String[] args) throws Exception {
        face();
        anyArguments();
        room();
        language();
        System.out.println(wrong + " rules broken");
        if (wrong != 0) System.exit(1);
    }
}
