import java.io.IOException;
import java.lang.reflect.InvocationTargetException;
import java.net.URL;
import java.net.URLClassLoader;
import java.nio.file.Files;
import java.nio.file.Path;
import java.util.regex.Matcher;
import java.util.regex.Pattern;
import javax.tools.ToolProvider;

/** The example of README.md, as it stands there: it compiles, and each answer is the one told behind "->". */
public final class ReadmeTest {
    private static final Path FOLDER = Path.of("build", "readme");
    private static final Pattern BLOCK = Pattern.compile("```java\\n(.*?)```", Pattern.DOTALL);
    private static final Pattern ANSWER = Pattern.compile("(?m)^\\w+ (\\w+) = .*; +// -> ([\\w.-]*\\w).*$");

    private static int told = 0;
    private static int answers = 0;
    private static int wrong = 0;

    /** Called by the example. */
    public static void due(String name, Object got, String want) {
        answers++;
        if (!String.valueOf(got).equals(want)) {
            wrong++;
            System.out.println("README.md: " + name + " is " + got + ", told is " + want);
        }
    }

    private static String exampleWithChecks() throws IOException {
        Matcher block = BLOCK.matcher(Files.readString(Path.of("README.md")));
        String code = block.find() ? block.group(1) : "";
        told = code.split("->", -1).length - 1;
        String checked = ANSWER.matcher(code).replaceAll("$0\nReadmeTest.due(\"$1\", $1, \"$2\");");
        return "public final class Example {\npublic static void run() {\n" + checked + "}\n}\n";
    }

    private static void runExample() throws IOException, ReflectiveOperationException {
        Files.createDirectories(FOLDER);
        Path source = FOLDER.resolve("Example.java");
        Files.writeString(source, exampleWithChecks());
        int failed = ToolProvider.getSystemJavaCompiler().run(null, null, null,
                "-cp", System.getProperty("java.class.path"), "-d", FOLDER.toString(), source.toString());
        if (failed != 0) {
            wrong++;
            System.out.println("README.md: the example does not compile");
            return;
        }
        try (URLClassLoader loader = new URLClassLoader(new URL[] {FOLDER.toUri().toURL()})) {
            loader.loadClass("Example").getMethod("run").invoke(null);
        } catch (InvocationTargetException thrown) {
            wrong++;
            System.out.println("README.md: the example throws " + thrown.getCause());
        }
    }

    public static void main(String[] args) throws IOException, ReflectiveOperationException {
        runExample();
        if (told == 0 || answers != told) {
            wrong++;
            System.out.println("README.md: " + told + " answers are told, " + answers + " were looked at");
        }
        System.out.println(wrong == 0 ? "the " + answers + " answers of README.md are as told" : wrong + " faults in README.md");
        if (wrong != 0) {
            System.exit(1);
        }
    }
}
