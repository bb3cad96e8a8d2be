import java.io.ByteArrayOutputStream;
import java.io.IOException;
import java.io.PrintStream;
import java.lang.reflect.Method;
import java.lang.reflect.Modifier;
import java.net.URL;
import java.net.URLClassLoader;
import java.nio.file.Files;
import java.nio.file.Path;
import java.util.ArrayList;
import java.util.Arrays;
import java.util.List;
import java.util.regex.Matcher;
import java.util.regex.Pattern;
import javax.tools.ToolProvider;

/** The example of README.md is compiled by the command that stands there, and prints what stands behind its lines. */
public final class ReadmeTest {
    private static final Path README = Path.of("README.md");
    private static final String FILE = "Example.java";
    private static final Path FOLDER = Path.of("build", "example");
    private static final Pattern PRINTING =
        Pattern.compile("System\\.out\\.println\\(.*\\);(?: +// ([^:]+)(?:: .+)?)?");

    private static final Check CHECK = new Check();

    private ReadmeTest() {
    }

    /** The lines of the first block of a kind. */
    private static List<String> block(String kind) throws IOException {
        List<String> found = new ArrayList<>();
        boolean isInside = false;
        for (String line : Files.readAllLines(README)) {
            if (isInside && line.equals("```")) {
                return found;
            }
            if (isInside) {
                found.add(line);
            }
            isInside |= line.equals("```" + kind);
        }
        return found;
    }

    private static int compile() throws IOException {
        String command = block("sh").get(0);
        CHECK.equal("the command begins with javac", command.startsWith("javac "), true);
        String written = command.replace(FILE, FOLDER.resolve(FILE).toString());
        String[] arguments = written.substring("javac ".length()).split(" ");
        CHECK.equal("the command writes to", Arrays.asList(arguments).contains(FOLDER.toString()), true);
        return ToolProvider.getSystemJavaCompiler().run(null, null, null, arguments);
    }

    private static List<String> printed() throws IOException, ReflectiveOperationException {
        PrintStream before = System.out;
        ByteArrayOutputStream caught = new ByteArrayOutputStream();
        URL[] classes = {FOLDER.toUri().toURL()};
        // Not the class that the tests use: the very one that the command has compiled.
        try (URLClassLoader loader = new URLClassLoader(classes, ClassLoader.getPlatformClassLoader())) {
            Method main = loader.loadClass("Example").getMethod("main", String[].class);
            System.setOut(new PrintStream(caught));
            main.invoke(null, (Object) new String[0]);
        } finally {
            System.setOut(before);
        }
        return Arrays.asList(caught.toString().split(System.lineSeparator()));
    }

    private static List<String> due(List<String> program) {
        List<String> found = new ArrayList<>();
        for (String line : program) {
            Matcher m = PRINTING.matcher(line.strip());
            if (m.matches()) {
                CHECK.equal(line.strip() + " tells what it prints", m.group(1) != null, true);
                found.add(String.valueOf(m.group(1)));
            }
        }
        return found;
    }

    private static void checkUsesWholeFace(List<String> program) {
        String all = String.join("\n", program);
        for (Method m : LetterRouter.class.getDeclaredMethods()) {
            if (Modifier.isPublic(m.getModifiers())) {
                CHECK.equal("the example uses " + m.getName(), all.contains("office." + m.getName() + "("), true);
            }
        }
    }

    public static void main(String[] args) throws IOException, ReflectiveOperationException {
        CHECK.at(README.toString());
        List<String> program = block("java");
        Files.createDirectories(FOLDER);
        Files.write(FOLDER.resolve(FILE), program);
        CHECK.equal("compiling the example", compile(), 0);
        CHECK.equal("what the example prints", printed(), due(program));
        checkUsesWholeFace(program);
        CHECK.equal("how to run the tests is told", Files.readString(README).contains("\n.ci/run\n"), true);
        CHECK.finish("ReadmeTest");
    }
}
