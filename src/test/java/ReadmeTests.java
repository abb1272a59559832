import java.lang.reflect.Method;
import java.lang.reflect.Modifier;
import java.nio.charset.StandardCharsets;
import java.nio.file.Files;
import java.nio.file.Path;
import java.util.Set;
import java.util.TreeSet;
import java.util.regex.Matcher;
import java.util.regex.Pattern;

// What README.md tells of the class is true: its face, and each call of its example with its answer.
public final class ReadmeTests {
    private static final Pattern MEMBER = Pattern.compile("(?m)^ +public (int|boolean) (\\w+)\\(([^)]*)\\);");
    private static final Pattern CALL = Pattern.compile("bench\\.(\\w+)\\(([^)]*)\\); +// (-?\\d+|true|false)\\b");
    private static int wrong = 0;

    public static void main(String[] args) throws Exception {
        Path readme = Path.of("README.md");
        if (args.length > 0) {
            readme = Path.of(args[0]).toAbsolutePath().normalize().resolve("../../../../README.md").normalize();
        }
        String text = new String(Files.readAllBytes(readme), StandardCharsets.UTF_8);
        face(text);
        example(text);
        tests(text);
        System.out.println(wrong == 0 ? "the readme is true" : wrong + " faults in the readme");
        if (wrong != 0) {
            System.exit(1);
        }
    }

    private static void fault(String text) {
        wrong++;
        System.out.println(text);
    }

    private static void face(String text) {
        Set<String> told = new TreeSet<>();
        Matcher m = MEMBER.matcher(text);
        while (m.find()) {
            String types = m.group(3).replaceAll("int \\w+", "int").replace(", ", ",");
            told.add(m.group(1) + " " + m.group(2) + "(" + types + ")");
        }
        Set<String> seen = new TreeSet<>();
        for (Method method : ReedBench.class.getDeclaredMethods()) {
            if (Modifier.isPublic(method.getModifiers())) {
                String types = "int,".repeat(method.getParameterCount()).replaceAll(",$", "");
                seen.add(method.getReturnType() + " " + method.getName() + "(" + types + ")");
            }
        }
        if (!told.equals(seen)) {
            fault("the readme's face is " + told + ", the class has " + seen);
        }
        if (!text.contains("public static final int NONE = " + ReedBench.NONE + ";")
            || !text.contains("public ReedBench();")) {
            fault("the readme's face lacks NONE or the constructor");
        }
    }

    private static void example(String text) throws Exception {
        int from = text.indexOf("ReedBench bench = new ReedBench();");
        int to = from < 0 ? -1 : text.indexOf("```", from);
        if (to < 0) {
            fault("the readme has no example");
            return;
        }
        ReedBench bench = new ReedBench();
        Set<String> unused = new TreeSet<>();
        for (Method method : ReedBench.class.getDeclaredMethods()) {
            if (Modifier.isPublic(method.getModifiers())) {
                unused.add(method.getName());
            }
        }
        String[] lines = text.substring(from, to).split("\n");
        for (int n = 1; n < lines.length; n++) {
            Matcher m = CALL.matcher(lines[n]);
            if (!m.lookingAt()) {
                fault("no call with its answer: " + lines[n]);
                continue;
            }
            unused.remove(m.group(1));
            String got = answer(bench, m.group(1), m.group(2));
            if (!got.equals(m.group(3))) {
                fault(m.group(1) + "(" + m.group(2) + ") answered " + got + ", the readme says " + m.group(3));
            }
        }
        if (!unused.isEmpty()) {
            fault("the example does not use " + unused);
        }
    }

    private static String answer(ReedBench bench, String name, String numbers) throws Exception {
        String[] parts = numbers.isEmpty() ? new String[0] : numbers.split(", ");
        Object[] values = new Object[parts.length];
        Class<?>[] types = new Class<?>[parts.length];
        for (int p = 0; p < parts.length; p++) {
            values[p] = Integer.valueOf(parts[p]);
            types[p] = int.class;
        }
        return String.valueOf(ReedBench.class.getMethod(name, types).invoke(bench, values));
    }

    private static void tests(String text) {
        String[] names = {".ci/run", "../shared/tests", "src/test/java", "PromiseTests", "BoundaryTests",
            "ModelTests", "FaceTests", "ReadmeTests"};
        for (String name : names) {
            if (!text.contains(name)) {
                fault("the readme does not tell of " + name);
            }
        }
    }
}
