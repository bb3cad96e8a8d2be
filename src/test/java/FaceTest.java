import java.io.IOException;
import java.lang.reflect.Constructor;
import java.lang.reflect.Field;
import java.lang.reflect.Method;
import java.lang.reflect.Modifier;
import java.nio.file.Files;
import java.nio.file.Path;
import java.util.Set;
import java.util.TreeSet;
import java.util.regex.Matcher;
import java.util.regex.Pattern;

/** The class has the document's face and no other member that is not private. */
public final class FaceTest {
    private static final Path DOCUMENT = Path.of("..", "shared", "DOC.md");
    private static final Path SOURCE = Path.of("src", "main", "java", "LetterRouter.java");
    private static final Pattern METHOD = Pattern.compile("(\\w+ \\w+)\\(([^)]*)\\)(?: throws ([\\w, ]+))?");
    private static final Pattern SECTION = Pattern.compile("Ahead of the calls (.+) the interface says: (.+)");
    private static final int METHODS = 34;

    private static final Check CHECK = new Check();

    private static String names(Class<?>[] types) {
        StringBuilder out = new StringBuilder();
        for (Class<?> type : types) {
            out.append(out.length() > 0 ? "," : "").append(type.getSimpleName());
        }
        return out.toString();
    }

    /** A method as the document writes it, without the names of its parameters. */
    private static String told(String written) {
        Matcher m = METHOD.matcher(written);
        if (!m.find()) {
            return "no method: " + written;
        }
        String types = m.group(2).replaceAll("(\\w+) \\w+(, )?", "$1,").replaceAll(",$", "");
        String thrown = m.group(3) == null ? "" : m.group(3).replace(", ", ",");
        return m.group(1) + "(" + types + ") " + thrown;
    }

    /** The methods of the document's face, which are those of its promises. */
    private static Set<String> face() throws IOException {
        Set<String> face = new TreeSet<>();
        Set<String> promised = new TreeSet<>();
        for (String line : Files.readAllLines(DOCUMENT)) {
            if (line.startsWith("    public ") && !line.contains("LetterRouter(")) {
                face.add(told(line));
            } else if (line.matches("`\\w+ \\w+\\(.*")) {
                promised.add(told(line.substring(1, line.indexOf('`', 1))));
            }
        }
        CHECK.equal("methods of the face", face.size(), METHODS);
        CHECK.equal("methods of the promises", promised, face);
        return face;
    }

    private static void checkMethods() throws IOException {
        Set<String> found = new TreeSet<>();
        Set<String> open = new TreeSet<>();
        for (Method m : LetterRouter.class.getDeclaredMethods()) {
            if (Modifier.isPublic(m.getModifiers())) {
                open.add(m.getName());
                found.add(m.getReturnType().getSimpleName() + " " + m.getName() + "("
                    + names(m.getParameterTypes()) + ") " + names(m.getExceptionTypes()));
                CHECK.equal(m.getName() + " static", Modifier.isStatic(m.getModifiers()), false);
            } else {
                CHECK.equal(m.getName() + " private", Modifier.isPrivate(m.getModifiers()), true);
            }
        }
        CHECK.equal("the public methods", found, face());
        checkNamesOfOthers(LetterRouter.class, open);
        for (Class<?> inner : LetterRouter.class.getDeclaredClasses()) {
            CHECK.equal(inner + " static", Modifier.isStatic(inner.getModifiers()), true);
            CHECK.equal(inner + " public", Modifier.isPublic(inner.getModifiers()), false);
            checkNamesOfOthers(inner, open);
        }
    }

    private static void checkNamesOfOthers(Class<?> owner, Set<String> open) {
        for (Method m : owner.getDeclaredMethods()) {
            if (!Modifier.isPublic(m.getModifiers())) {
                CHECK.equal(owner + " has a second " + m.getName(), open.contains(m.getName()), false);
            }
        }
    }

    private static void checkRest() {
        CHECK.equal("public final", LetterRouter.class.getModifiers(), Modifier.PUBLIC | Modifier.FINAL);
        Constructor<?>[] made = LetterRouter.class.getDeclaredConstructors();
        CHECK.equal("constructors", made.length, 1);
        CHECK.equal("its parameters", made[0].getParameterCount(), 0);
        CHECK.equal("public constructor", Modifier.isPublic(made[0].getModifiers()), true);
        for (Field f : LetterRouter.class.getDeclaredFields()) {
            CHECK.equal(f + " private", Modifier.isPrivate(f.getModifiers()), true);
        }
    }

    /** What the interface says ahead of some calls stands ahead of them, and behind the calls before. */
    private static void checkSections() throws IOException {
        String source = Files.readString(SOURCE);
        int behind = 0;
        int calls = 0;
        for (String line : Files.readAllLines(DOCUMENT)) {
            Matcher m = SECTION.matcher(line);
            if (m.matches()) {
                int heading = source.indexOf("    // " + m.group(2) + "\n");
                CHECK.equal("the place of " + m.group(2), heading > behind, true);
                behind = heading;
                for (String call : m.group(1).replaceAll("[`,]", "").split(" ")) {
                    Matcher found = Pattern.compile("\n    public \\w+ " + call + "\\(").matcher(source);
                    CHECK.equal("the place of " + call, found.find() && found.start() > behind, true);
                    behind = found.start();
                    calls++;
                }
            }
        }
        CHECK.equal("calls behind such lines", calls, METHODS);
    }

    public static void main(String[] args) throws IOException {
        CHECK.at("face");
        checkMethods();
        checkRest();
        checkSections();
        CHECK.finish("FaceTest");
    }
}
