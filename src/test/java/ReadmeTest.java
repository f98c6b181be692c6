import java.lang.reflect.Method;
import java.lang.reflect.Modifier;
import java.net.URL;
import java.net.URLClassLoader;
import java.nio.file.Files;
import java.nio.file.Path;
import java.util.ArrayList;
import java.util.List;
import java.util.regex.Matcher;
import java.util.regex.Pattern;
import javax.tools.JavaCompiler;
import javax.tools.ToolProvider;

/**
 * What README.md shows of the use of the class holds: its lines are compiled as they stand
 * there, as one program, and each call must give the answer that is named behind it.
 */
public final class ReadmeTest {
    private static final Pattern CALL = Pattern.compile(
            "(int \\w+ = )?(x\\.(\\w+)\\(.*\\)); +// (-?\\d+)(?:, and (-?\\d+)/(\\d+))?(?:: .*)?");
    private static final List<String> WITHOUT_ANSWER =
            List.of("ChainSolves x = new ChainSolves();", "x.clear();");
    private static final List<String> SOLVING =
            List.of("ever", "again", "before", "steps", "visits", "share", "after", "worth");

    private static int wrong = 0;

    public static void main(String[] args) throws Exception {
        List<String> shown = javaLines(Files.readAllLines(Path.of("README.md")));
        everyMethodIsShown(shown);
        run(program(shown));
        System.out.println(wrong == 0 ? "the README holds" : wrong + " rows of the README do not hold");
        if (wrong != 0) {
            System.exit(1);
        }
    }

    /** The program that is made of README.md calls this too. */
    public static void due(String row, long got, long want) {
        if (got != want) {
            fail(row + " gave " + got);
        }
    }

    private static void fail(String text) {
        wrong++;
        System.out.println(text);
    }

    private static List<String> javaLines(List<String> readme) {
        List<String> shown = new ArrayList<>();
        boolean inside = false;
        for (String line : readme) {
            if (line.startsWith("```")) {
                inside = line.equals("```java");
            } else if (inside && !line.isBlank()) {
                shown.add(line.strip());
            }
        }
        return shown;
    }

    private static void everyMethodIsShown(List<String> shown) {
        for (Method method : ChainSolves.class.getDeclaredMethods()) {
            String call = "x." + method.getName() + "(";
            if (Modifier.isPublic(method.getModifiers()) && shown.stream().noneMatch(row -> row.contains(call))) {
                fail("README.md shows no call of " + method.getName());
            }
        }
    }

    private static String program(List<String> shown) {
        StringBuilder body = new StringBuilder();
        for (String row : shown) {
            body.append(WITHOUT_ANSWER.contains(row) ? row + "\n" : checked(row));
        }
        return "public final class ReadmeUse {\n"
                + "public static void main(String[] args) {\n" + body + "}\n}\n";
    }

    private static String checked(String row) {
        Matcher call = CALL.matcher(row);
        if (!call.matches()) {
            fail("names no answer: " + row);
            return "";
        }
        boolean solved = SOLVING.contains(call.group(3)) && call.group(4).equals("1");
        if (solved != (call.group(5) != null)) {
            fail("a fraction stands behind calls that solve, and only there: " + row);
        }
        String got = call.group(2);
        String code = "";
        if (call.group(1) != null) {
            code = call.group(1) + got + ";\n";
            got = call.group(1).split(" ")[1];
        }
        code += dueCode(row, got, call.group(4));
        if (call.group(5) != null) {
            code += dueCode(row, "x.upper()", call.group(5)) + dueCode(row, "x.lower()", call.group(6));
        }
        return code;
    }

    private static String dueCode(String row, String got, String want) {
        String text = row.replace("\\", "\\\\").replace("\"", "\\\"");
        return "ReadmeTest.due(\"" + text + "\", " + got + ", " + want + "L);\n";
    }

    private static void run(String program) throws Exception {
        JavaCompiler compiler = ToolProvider.getSystemJavaCompiler();
        if (compiler == null) {
            fail("there is no compiler");
            return;
        }
        Path folder = Files.createTempDirectory("readme");
        Path source = folder.resolve("ReadmeUse.java");
        Path made = folder.resolve("ReadmeUse.class");
        Files.writeString(source, program);
        String classes = System.getProperty("java.class.path");
        if (compiler.run(null, null, null, "-cp", classes, "-d", folder.toString(), source.toString()) != 0) {
            fail("the rows of README.md do not compile");
        } else {
            callMain(folder);
        }
        Files.deleteIfExists(made);
        Files.delete(source);
        Files.delete(folder);
    }

    private static void callMain(Path folder) throws Exception {
        URL[] where = {folder.toUri().toURL()};
        try (URLClassLoader loader = new URLClassLoader(where, ReadmeTest.class.getClassLoader())) {
            Object none = new String[0];
            loader.loadClass("ReadmeUse").getMethod("main", String[].class).invoke(null, none);
        }
    }
}
