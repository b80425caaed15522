import java.io.File;
import java.lang.reflect.Method;
import java.lang.reflect.Modifier;
import java.net.URL;
import java.net.URLClassLoader;
import java.nio.file.Files;
import java.nio.file.Path;
import java.util.regex.Matcher;
import java.util.regex.Pattern;
import javax.tools.ToolProvider;

/** README.md tells the truth: its example does what stands beside it; each call and each test is told of. */
public final class ReadmeTest {
    private static int wrong = 0;

    public static void main(String[] args) throws Exception {
        String page = Files.readString(Path.of("README.md"));
        checkExample(shown(page));
        for (Method m : CrissMerger.class.getDeclaredMethods()) {
            boolean told = !Modifier.isPublic(m.getModifiers()) || page.contains("`" + m.getName() + "`");
            say(told, "no word of " + m.getName() + "()");
        }
        for (File test : new File("src/test/java").listFiles((place, name) -> name.endsWith("Test.java"))) {
            say(page.contains("- `" + test.getName().replace(".java", "") + "`"), "no word of " + test.getName());
        }
        say(page.contains(".ci/run") && new File(".ci/run").canExecute(), "no word of .ci/run, or it can't be run");
        System.out.println("ReadmeTest: " + wrong + " wrong");
        if (wrong != 0) {
            System.exit(1);
        }
    }

    private static void say(boolean well, String what) {
        if (!well) {
            wrong++;
            System.out.println(what);
        }
    }

    /** Compiles the page's example and lets it make its object. */
    private static CrissMerger shown(String page) throws Exception {
        Matcher example = Pattern.compile("```java\n(.*?)```", Pattern.DOTALL).matcher(page);
        if (!example.find()) {
            throw new IllegalStateException("README.md has no example");
        }
        Path place = Files.createTempDirectory("readme");
        Path source = place.resolve("Shown.java");
        Files.writeString(source, "public class Shown { public static CrissMerger make() {\n"
                + example.group(1) + "return x; } }\n");
        int failed = ToolProvider.getSystemJavaCompiler().run(null, null, null, "-d", place.toString(),
                "-sourcepath", "src/main/java", source.toString());
        if (failed != 0) {
            throw new IllegalStateException("the example of README.md does not compile");
        }
        try (URLClassLoader loader = new URLClassLoader(new URL[] {place.toUri().toURL()})) {
            return (CrissMerger) loader.loadClass("Shown").getMethod("make").invoke(null);
        } finally {
            for (File file : place.toFile().listFiles()) {
                file.delete();
            }
            place.toFile().delete();
        }
    }

    private static void checkExample(CrissMerger x) {
        say(x.count(0) == 5, "the example makes " + x.count(0) + " VERSIONS");
        say(row(x, 1).equals("1 10 7 11 2 12 8 13 3 "), "ROW 1 is " + row(x, 1));
        say(x.upper() == 1 && x.lower() == 2, "the chance is " + x.upper() + " by " + x.lower());
        String[] due = {"1 2 3 ", "1 7 3 ", "1 8 3 ", "1 10 7 11 2 12 8 13 3 ", "1 8 3 "};
        for (int v = 0; v < due.length; v++) {
            x.file(v, 0, 5);
            say(row(x, 5).equals(due[v]), "VERSION " + v + " is " + row(x, 5));
        }
    }

    private static String row(CrissMerger x, int r) {
        StringBuilder places = new StringBuilder();
        for (int i = 0; x.at(r, i) == 1; i++) {
            places.append(x.asked()).append(' ');
        }
        return places.toString();
    }
}
