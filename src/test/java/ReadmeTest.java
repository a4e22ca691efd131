import java.io.ByteArrayOutputStream;
import java.io.PrintStream;
import java.lang.reflect.Method;
import java.lang.reflect.Modifier;
import java.net.URL;
import java.net.URLClassLoader;
import java.nio.charset.StandardCharsets;
import java.nio.file.DirectoryStream;
import java.nio.file.Files;
import java.nio.file.Path;
import javax.tools.ToolProvider;

/** README.md: its example is compiled and prints what the page says; no call, refusal or test is left out. */
public final class ReadmeTest {
    private static final Path MADE = Path.of("build/readme");

    public static void main(String[] args) throws Exception {
        String page = Files.readString(Path.of("README.md"));
        example(block(page, "```java\n"), block(page, "It prints:\n\n```text\n"));
        calls(page);
        refusals(page);
        tests(page);
        Due.end("ReadmeTest");
    }

    /** What stands between these words and the next line of three back quotes. */
    private static String block(String page, String ahead) {
        int from = page.indexOf(ahead);
        Due.is("README.md has: " + ahead, from < 0 ? 0 : 1, 1);
        return from < 0 ? "" : page.substring(from + ahead.length(), page.indexOf("```", from + ahead.length()));
    }

    private static void example(String program, String told) throws Exception {
        Files.createDirectories(MADE);
        Path source = MADE.resolve("Walk.java");
        Files.writeString(source, program);
        int code = ToolProvider.getSystemJavaCompiler().run(null, null, null, "--release", "17",
                "-cp", System.getProperty("java.class.path"), "-d", MADE.toString(), source.toString());
        Due.is("javac of README.md's example", code, 0);
        String[] printed = (code == 0 ? printedBy("Walk") : "").split("\n");
        String[] due = told.split("\n");
        Due.is("lines that the example prints", printed.length, due.length);
        for (int i = 0; i < Math.min(printed.length, due.length); i++) {
            Due.is("the example prints \"" + printed[i] + "\", README.md has \"" + due[i] + "\"",
                    printed[i].equals(due[i]) ? 1 : 0, 1);
        }
    }

    private static String printedBy(String name) throws Exception {
        ByteArrayOutputStream bytes = new ByteArrayOutputStream();
        PrintStream before = System.out;
        try (URLClassLoader loader = new URLClassLoader(new URL[] {MADE.toUri().toURL()})) {
            System.setOut(new PrintStream(bytes, true, StandardCharsets.UTF_8));
            loader.loadClass(name).getMethod("main", String[].class).invoke(null, (Object) new String[0]);
        } finally {
            System.setOut(before);
        }
        return bytes.toString(StandardCharsets.UTF_8).replace("\r", "");
    }

    private static void calls(String page) {
        for (Method m : OneBench.class.getDeclaredMethods()) {
            if (Modifier.isPublic(m.getModifiers())) {
                Due.is("README.md names " + m.getName(), page.contains("`" + m.getName() + "(") ? 1 : 0, 1);
            }
        }
    }

    private static void refusals(String page) {
        String[] names = {"NONE", "BAD", "STATE", "FULL"};
        for (int i = 0; i < names.length; i++) {
            String row = "| " + (Due.NONE - i) + " | `OneBench." + names[i] + "` |";
            Due.is("README.md has: " + row, page.contains(row) ? 1 : 0, 1);
        }
        for (int finding = 1; finding <= 5; finding++) {
            String row = "| " + (-1000010 - finding) + " | finding " + finding + " |";
            Due.is("README.md has: " + row, page.contains(row) ? 1 : 0, 1);
        }
    }

    private static void tests(String page) throws Exception {
        try (DirectoryStream<Path> files = Files.newDirectoryStream(Path.of("src/test/java"), "*Test.java")) {
            for (Path file : files) {
                String name = file.getFileName().toString().replace(".java", "");
                Due.is("README.md names " + name, page.contains("`" + name + "`") ? 1 : 0, 1);
            }
        }
    }
}
