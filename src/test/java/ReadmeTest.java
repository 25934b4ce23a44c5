import java.io.ByteArrayOutputStream;
import java.io.IOException;
import java.io.PrintStream;
import java.lang.reflect.Method;
import java.lang.reflect.Modifier;
import java.net.URL;
import java.net.URLClassLoader;
import java.nio.file.Files;
import java.nio.file.Path;
import java.util.ArrayList;
import java.util.List;
import java.util.regex.Matcher;
import java.util.regex.Pattern;
import javax.tools.JavaCompiler;
import javax.tools.ToolProvider;

/** README.md names every public method as it is, and its example answers what it says behind each line. */
public final class ReadmeTest {
    private static int wrong = 0;

    public static void main(String[] args) throws IOException, ReflectiveOperationException {
        String page = Files.readString(Path.of("README.md"));
        everyMethod(page);
        example(page);
        System.out.println(wrong == 0 ? "README.md is as the class" : wrong + " in README.md are not as the class");
        if (wrong != 0) {
            System.exit(1);
        }
    }

    private static void hold(boolean holds, String what) {
        if (!holds) {
            wrong++;
            System.out.println("README.md: " + what);
        }
    }

    private static void everyMethod(String page) {
        for (Method m : WivesQuarrels.class.getDeclaredMethods()) {
            if (Modifier.isPublic(m.getModifiers())) {
                Matcher named = Pattern.compile("^\\| .*`" + m.getName() + "\\(([^)]*)\\)`.* \\|", Pattern.MULTILINE)
                    .matcher(page);
                hold(named.find() && parameters(named.group(1)) == m.getParameterCount(), m.getName());
            }
        }
    }

    private static int parameters(String list) {
        return list.isEmpty() ? 0 : list.split(", ").length;
    }

    private static void example(String page) throws IOException, ReflectiveOperationException {
        Matcher block = Pattern.compile("```java\n([\\s\\S]*?)```").matcher(page);
        if (!block.find()) {
            hold(false, "there is no example");
            return;
        }
        List<String> due = new ArrayList<>();
        Matcher answer = Pattern.compile("println\\(x\\..*// (-?\\d+):").matcher(block.group(1));
        while (answer.find()) {
            due.add(answer.group(1));
        }
        List<String> got = run(block.group(1));
        hold(!due.isEmpty() && got.equals(due), "the example answers " + got + ", it says " + due);
    }

    private static List<String> run(String code) throws IOException, ReflectiveOperationException {
        Path dir = Files.createTempDirectory("readme");
        Path file = dir.resolve("Example.java");
        Path made = dir.resolve("Example.class");
        Files.writeString(file, "public class Example { public static void run() {\n" + code + "}}\n");
        JavaCompiler compiler = ToolProvider.getSystemJavaCompiler();
        String classes = System.getProperty("java.class.path");
        boolean compiles = compiler != null
            && compiler.run(null, null, null, "-cp", classes, "-d", dir.toString(), file.toString()) == 0;
        hold(compiles, "the example compiles");
        List<String> lines = compiles ? printedBy(dir) : List.of();
        Files.deleteIfExists(file);
        Files.deleteIfExists(made);
        Files.delete(dir);
        return lines;
    }

    private static List<String> printedBy(Path dir) throws IOException, ReflectiveOperationException {
        PrintStream screen = System.out;
        ByteArrayOutputStream printed = new ByteArrayOutputStream();
        try (URLClassLoader loader = new URLClassLoader(new URL[] {dir.toUri().toURL()},
                ReadmeTest.class.getClassLoader())) {
            System.setOut(new PrintStream(printed, true));
            loader.loadClass("Example").getMethod("run").invoke(null);
        } finally {
            System.setOut(screen);
        }
        return printed.toString().lines().toList();
    }
}
