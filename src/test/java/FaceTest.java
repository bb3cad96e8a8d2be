import java.lang.reflect.Constructor;
import java.lang.reflect.Field;
import java.lang.reflect.Method;
import java.lang.reflect.Modifier;
import java.util.Arrays;
import java.util.Set;
import java.util.TreeSet;

/** The class has the document's face and no other member that is not private. */
public final class FaceTest {
    private static final String[] FACE = {
        "int addHouse(int,int) IllegalArgumentException,IllegalStateException",
        "int addPerson(int) IndexOutOfBoundsException,IllegalStateException",
        "int addWalk(int,int,int,int,int) IllegalArgumentException,IllegalStateException",
        "int walkOf(int) IndexOutOfBoundsException",
        "int stop(int,int) IndexOutOfBoundsException,NoSuchElementException",
        "int stopIndex(int) IndexOutOfBoundsException,NoSuchElementException",
        "int redirectPerson(int,int,int,int) "
            + "IndexOutOfBoundsException,IllegalArgumentException,UnsupportedOperationException",
        "int redirectHouse(int,int,int,int) "
            + "IndexOutOfBoundsException,IllegalArgumentException,UnsupportedOperationException",
        "int dropRedirect(int) IndexOutOfBoundsException,UnsupportedOperationException",
        "int way(int,int,int) IndexOutOfBoundsException,IllegalArgumentException,NoSuchElementException",
        "int hold(int,int) IndexOutOfBoundsException,IllegalArgumentException",
        "boolean allow(int,int,boolean) IndexOutOfBoundsException,IllegalArgumentException",
        "int setLimit(int,int) IndexOutOfBoundsException,IllegalArgumentException",
        "int leave(int,int,int) IndexOutOfBoundsException,IllegalArgumentException",
        "int signer(int,int) IndexOutOfBoundsException,IllegalArgumentException,NoSuchElementException",
        "int residents(int,int,int) IndexOutOfBoundsException,IllegalArgumentException",
        "int addLetter(int,int,boolean) "
            + "IndexOutOfBoundsException,IllegalArgumentException,UnsupportedOperationException",
        "void append(char) IllegalStateException",
        "int arrive() IllegalArgumentException,UnsupportedOperationException",
        "int faultPosition() ",
        "int refusal() NoSuchElementException",
        "int letter(int,int) IndexOutOfBoundsException,IllegalArgumentException",
        "int noteLength(int) IndexOutOfBoundsException",
        "char note(int,int) IndexOutOfBoundsException,NoSuchElementException",
        "int delivered(int) NoSuchElementException",
        "int daysLeft(int) IndexOutOfBoundsException,IllegalStateException,NoSuchElementException",
        "int pass(int) IllegalArgumentException",
        "int today() ",
        "int account(int) IllegalArgumentException",
        "int returned(int) IllegalArgumentException",
        "double meanDays() ArithmeticException",
        "int undo() IllegalStateException",
        "void save() ",
        "void restore() IllegalStateException",
    };

    private static final Check CHECK = new Check();

    private static String names(Class<?>[] types) {
        StringBuilder out = new StringBuilder();
        for (Class<?> type : types) {
            out.append(out.length() > 0 ? "," : "").append(type.getSimpleName());
        }
        return out.toString();
    }

    private static void checkMethods() {
        Set<String> found = new TreeSet<>();
        Set<String> open = new TreeSet<>();
        for (Method m : LetterRouter.class.getDeclaredMethods()) {
            if (Modifier.isPublic(m.getModifiers())) {
                open.add(m.getName());
                found.add(m.getReturnType().getSimpleName() + " " + m.getName() + "("
                    + names(m.getParameterTypes()) + ") " + names(m.getExceptionTypes()));
                CHECK.equal(m.getName() + " static", Modifier.isStatic(m.getModifiers()), false);
            } else {
                CHECK.equal(m.getName() + " private", Modifier.isPrivate(m.getModifiers()), true);
            }
        }
        CHECK.equal("the public methods", found, new TreeSet<>(Arrays.asList(FACE)));
        checkNamesOfOthers(LetterRouter.class, open);
        for (Class<?> inner : LetterRouter.class.getDeclaredClasses()) {
            CHECK.equal(inner + " static", Modifier.isStatic(inner.getModifiers()), true);
            CHECK.equal(inner + " public", Modifier.isPublic(inner.getModifiers()), false);
            checkNamesOfOthers(inner, open);
        }
    }

    private static void checkNamesOfOthers(Class<?> owner, Set<String> open) {
        for (Method m : owner.getDeclaredMethods()) {
            if (!Modifier.isPublic(m.getModifiers())) {
                CHECK.equal(owner + " has a second " + m.getName(), open.contains(m.getName()), false);
            }
        }
    }

    private static void checkRest() {
        CHECK.equal("public final", LetterRouter.class.getModifiers(), Modifier.PUBLIC | Modifier.FINAL);
        Constructor<?>[] made = LetterRouter.class.getDeclaredConstructors();
        CHECK.equal("constructors", made.length, 1);
        CHECK.equal("its parameters", made[0].getParameterCount(), 0);
        CHECK.equal("public constructor", Modifier.isPublic(made[0].getModifiers()), true);
        for (Field f : LetterRouter.class.getDeclaredFields()) {
            CHECK.equal(f + " private", Modifier.isPrivate(f.getModifiers()), true);
        }
    }

    public static void main(String[] args) {
        CHECK.at("face");
        checkMethods();
        checkRest();
        CHECK.finish("FaceTest");
    }
}
