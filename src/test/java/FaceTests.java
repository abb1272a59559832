import java.lang.management.ManagementFactory;
import java.lang.reflect.Constructor;
import java.lang.reflect.Field;
import java.lang.reflect.Method;
import java.lang.reflect.Modifier;
import java.nio.charset.StandardCharsets;
import java.nio.file.Files;
import java.nio.file.Path;
import java.util.Set;
import java.util.TreeSet;
import java.util.regex.Matcher;
import java.util.regex.Pattern;

// The public face, what can be seen of the language's rules, and calls with extreme arguments.
public final class FaceTests {
    private static final String[] FACE = {
        "int reed(int,int,int)", "boolean scrap(int)", "boolean rates(int,int)", "boolean want(int,int)",
        "boolean tuning(int,int)", "boolean beat(int,int,int)", "int file(int,int,int)", "int look(int)",
        "int of(int,int)", "int work(int,int,int)", "int pairWork(int,int,int,int)", "int best(int)",
        "int lays()", "int make()", "int lacks()", "boolean undo()"};
    private static final String[] FORBIDDEN = {
        "\\bthrow\\b", "\\btry\\b", "\\bcatch\\b", "\\bsynchronized\\b", "\\bassert\\b", "->", "::",
        "\\bprotected\\b", "Exact\\b", "\\bSystem\\.(?!arraycopy)", "\\bhashCode\\b", "\\btoString\\b"};
    private static final int[] EXTREMES = {
        Integer.MIN_VALUE, -100001, -1000, -2, -1, 0, 1, 3, 7, 8, 12, 13, 20, 27, 1000, 1 << 20, Integer.MAX_VALUE};
    private static int wrong = 0;

    public static void main(String[] args) throws Exception {
        face();
        privateNames();
        source(args.length > 0 ? args[0] : "src/main/java/ReedBench.java");
        extremes();
        room();
        System.out.println(wrong == 0 ? "the face is as due" : wrong + " faults");
        if (wrong != 0) {
            System.exit(1);
        }
    }

    private static void fault(String text) {
        wrong++;
        System.out.println(text);
    }

    private static String plain(Method m) {
        StringBuilder text = new StringBuilder(m.getReturnType().getName() + " " + m.getName() + "(");
        for (int p = 0; p < m.getParameterCount(); p++) {
            text.append(p == 0 ? "" : ",").append(m.getParameterTypes()[p].getName());
        }
        return text.append(")").toString();
    }

    private static void face() throws Exception {
        Set<String> due = new TreeSet<>(Set.of(FACE));
        Set<String> seen = new TreeSet<>();
        for (Method m : ReedBench.class.getDeclaredMethods()) {
            if (Modifier.isPublic(m.getModifiers()) && !Modifier.isStatic(m.getModifiers())) {
                seen.add(plain(m));
            } else if (!Modifier.isPrivate(m.getModifiers())) {
                fault("visible beside the face: " + m);
            }
        }
        if (!seen.equals(due)) {
            fault("the methods are " + seen);
        }
        for (Field f : ReedBench.class.getDeclaredFields()) {
            if (!Modifier.isPrivate(f.getModifiers()) && !f.getName().equals("NONE")) {
                fault("visible beside the face: " + f);
            }
        }
        Constructor<?>[] made = ReedBench.class.getDeclaredConstructors();
        if (made.length != 1 || made[0].getParameterCount() != 0 || !Modifier.isPublic(made[0].getModifiers())) {
            fault("the constructor is not the document's");
        }
        int both = Modifier.PUBLIC | Modifier.FINAL;
        if ((ReedBench.class.getModifiers() & both) != both) {
            fault("the class is not public and final");
        }
        int constant = Modifier.PUBLIC | Modifier.STATIC | Modifier.FINAL;
        if ((ReedBench.class.getField("NONE").getModifiers() & constant) != constant) {
            fault("NONE is no public constant");
        }
    }

    private static void privateNames() {
        Set<String> names = new TreeSet<>();
        for (String line : FACE) {
            names.add(line.substring(line.indexOf(' ') + 1, line.indexOf('(')));
        }
        for (Class<?> inside : ReedBench.class.getDeclaredClasses()) {
            if (!Modifier.isStatic(inside.getModifiers()) || Modifier.isPublic(inside.getModifiers())) {
                fault("not a private or package-visible static class: " + inside);
            }
            for (Method m : inside.getDeclaredMethods()) {
                if (names.contains(m.getName())) {
                    fault("bears the name of a public method: " + m);
                }
                if (m.getParameterCount() > 7) {
                    fault("more than seven parameters: " + m);
                }
            }
        }
    }

    private static void source(String path) throws Exception {
        String text = new String(Files.readAllBytes(Path.of(path)), StandardCharsets.ISO_8859_1);
        String code = text.replaceAll("(?s)/\\*.*?\\*/", "").replaceAll("//[^\n]*", "");
        for (String pattern : FORBIDDEN) {
            Matcher m = Pattern.compile(pattern).matcher(code);
            if (m.find()) {
                fault("the language rules out: " + m.group());
            }
        }
    }

    private static ReedBench filled() {
        ReedBench x = new ReedBench();
        for (int r = 0; r < 12; r++) {
            x.reed(1000 + 3 * r, 20, 20);
        }
        x.rates(7, 50);
        for (int s = 0; s < 8; s++) {
            x.want(s, 1000);
        }
        for (int k = 0; k < 4; k++) {
            x.beat(k, -100, 100);
        }
        return x;
    }

    private static void extremes() {
        ReedBench[] benches = {new ReedBench(), filled()};
        for (ReedBench x : benches) {
            for (int a : EXTREMES) {
                oneOrTwo(x, a);
                for (int b : EXTREMES) {
                    for (int c : EXTREMES) {
                        x.reed(a, b, c);
                        x.file(a, b, c);
                        x.beat(a, b, c);
                        x.work(a, b, c);
                        for (int d : EXTREMES) {
                            x.pairWork(a, b, c, d);
                        }
                    }
                }
                x.lacks();
                x.lays();
                x.make();
                x.undo();
            }
        }
    }

    private static void oneOrTwo(ReedBench x, int a) {
        x.look(a);
        x.best(a);
        x.scrap(a);
        for (int b : EXTREMES) {
            x.of(a, b);
            x.want(a, b);
            x.rates(a, b);
            x.tuning(a, b);
            x.undo();
        }
    }

    // Calls make no objects: what 512 of the dearest ones take is next to nothing.
    private static void room() {
        com.sun.management.ThreadMXBean threads =
            (com.sun.management.ThreadMXBean) ManagementFactory.getThreadMXBean();
        long id = Thread.currentThread().getId();
        threads.getThreadAllocatedBytes(id);
        long start = threads.getThreadAllocatedBytes(id);
        ReedBench x = filled();
        long made = threads.getThreadAllocatedBytes(id);
        for (int n = 0; n < 120; n++) {
            x.want(7, n % 2 == 0 ? 1000 : 9999);
            x.best(0);
            x.lacks();
            x.make();
        }
        long used = threads.getThreadAllocatedBytes(id);
        // 14,000 elements of four bytes, so that even 512 new objects stay within the room.
        if (made - start > 56000) {
            fault("a new object takes " + (made - start) + " bytes");
        }
        if (used - made > 20000) {
            fault("calls take " + (used - made) + " bytes");
        }
    }
}
