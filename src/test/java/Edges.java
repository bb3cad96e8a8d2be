import java.io.IOException;
import java.nio.file.Path;
import java.util.ArrayList;
import java.util.HashMap;
import java.util.List;
import java.util.Map;
import java.util.TreeMap;
import java.util.TreeSet;
import java.util.function.Supplier;

/** Tests that each name a sentence of the document, which must stand there word for word, and a boundary of it. */
final class Edges {
    static final int TERMS = 0;
    static final Class<?> ARGUMENT = IllegalArgumentException.class;
    static final Class<?> STATE = IllegalStateException.class;
    static final Class<?> INDEX = IndexOutOfBoundsException.class;
    static final Class<?> REFUSED = UnsupportedOperationException.class;
    static final Class<?> MISSING = java.util.NoSuchElementException.class;
    static final Class<?> ARITHMETIC = ArithmeticException.class;

    /** The values next to a range and the farthest ones. */
    static int[] outside(int first, int last) {
        return new int[] {first - 1, last + 1, Integer.MIN_VALUE, Integer.MAX_VALUE};
    }

    interface Act {
        Object on(LetterRouter x);
    }

    private record Edge(int promise, String sentence, String title, Runnable body) { }

    private final List<Edge> all = new ArrayList<>();
    private final Map<Supplier<LetterRouter>, Map<String, String>> pictures = new HashMap<>();
    private Edge now;
    private int looked = 0;
    private int wrong = 0;

    /** Promise 0 stands for the terms. */
    void test(int promise, String sentence, String title, Runnable body) {
        all.add(new Edge(promise, sentence, title, body));
    }

    void is(String what, Object got, Object want) {
        looked++;
        if (!want.equals(got)) {
            complain(what + " answered " + got + ", due is " + want);
        }
    }

    private void complain(String fault) {
        wrong++;
        String place = now.promise == TERMS ? "Terms" : "Promise " + now.promise;
        System.out.println(place + ", \"" + now.sentence + "\", " + now.title + ": " + fault);
    }

    /** The very class that is due, thrown by a statement of LetterRouter. */
    void fails(String what, Class<?> due, LetterRouter x, Act act) {
        looked++;
        try {
            complain(what + " answered " + act.on(x) + ", due is " + due.getSimpleName());
        } catch (RuntimeException e) {
            StackTraceElement[] trace = e.getStackTrace();
            boolean isOwn = trace.length > 0 && trace[0].getClassName().startsWith("LetterRouter");
            if (e.getClass() != due || !isOwn || "/ by zero".equals(e.getMessage())) {
                complain(what + " threw " + e + ", due is " + due.getSimpleName());
            }
        }
    }

    /** The call throws, and all stays as it was. */
    void rejects(String what, Class<?> due, Supplier<LetterRouter> scene, Act act) {
        fails(what, due, scene.get(), act);
        compare(what, Picture.of(afterwards(scene, act)), pictureOf(scene));
    }

    /** The call is refused, and all but the reason that is kept stays as it was. */
    void refuses(String what, int reason, Supplier<LetterRouter> scene, Act act) {
        fails(what, REFUSED, scene.get(), act);
        Map<String, String> want = new HashMap<>(pictureOf(scene));
        want.put(Picture.REFUSAL, reason + " ");
        compare(what, Picture.of(afterwards(scene, act)), want);
    }

    /** A text that is typed behind nothing fails to arrive, and all stays as it was but for what the document names. */
    void failsToArrive(String text, Class<?> due, int fault, String reason, Supplier<LetterRouter> scene) {
        fails("text " + text, due, typed(scene, text), LetterRouter::arrive);
        Map<String, String> want = new HashMap<>(pictureOf(scene));
        want.put(Picture.FAULT, fault + " ");
        if (!reason.isEmpty()) {
            want.put(Picture.REFUSAL, reason + " ");
        }
        compare("text " + text, Picture.of(afterwards(() -> typed(scene, text), LetterRouter::arrive)), want);
    }

    private static LetterRouter typed(Supplier<LetterRouter> scene, String text) {
        LetterRouter x = scene.get();
        Scenes.type(x, text);
        return x;
    }

    /** A call that only answers changes nothing, neither. */
    void onlyAnswers(String what, Supplier<LetterRouter> scene, Act act) {
        compare(what, Picture.of(afterwards(scene, act)), pictureOf(scene));
    }

    void same(String what, Supplier<LetterRouter> got, Supplier<LetterRouter> want) {
        compare(what, Picture.of(got), pictureOf(want));
    }

    /** Alike but for what does not belong to the office: changes that are kept, text, fault position and reason. */
    void sameOffice(String what, Supplier<LetterRouter> got, Supplier<LetterRouter> want) {
        compare(what, Picture.ofOffice(got), Picture.ofOffice(want));
    }

    private static Supplier<LetterRouter> afterwards(Supplier<LetterRouter> scene, Act act) {
        return () -> {
            LetterRouter x = scene.get();
            Scenes.attempt(x, act);
            return x;
        };
    }

    private Map<String, String> pictureOf(Supplier<LetterRouter> scene) {
        return pictures.computeIfAbsent(scene, Picture::of);
    }

    private void compare(String what, Map<String, String> got, Map<String, String> want) {
        looked++;
        TreeSet<String> names = new TreeSet<>(got.keySet());
        names.addAll(want.keySet());
        for (String name : names) {
            if (!String.valueOf(want.get(name)).equals(got.get(name))) {
                complain(what + " changed: " + name + " is " + got.get(name) + ", due is " + want.get(name));
                return;
            }
        }
    }

    void run() {
        for (Edge edge : all) {
            now = edge;
            int before = looked;
            try {
                edge.body.run();
            } catch (RuntimeException e) {
                complain("the test was ended by " + e + " at " + e.getStackTrace()[0]);
            }
            if (looked == before) {
                complain("the test looks at nothing");
            }
        }
    }

    /** Each quoted sentence stands in the document; each sentence that names what is due is quoted. */
    void checkQuotes(Path file) throws IOException {
        Document document = Document.read(file);
        Map<Integer, TreeSet<String>> quoted = new TreeMap<>();
        for (Edge edge : all) {
            now = edge;
            looked++;
            quoted.computeIfAbsent(edge.promise, k -> new TreeSet<>()).add(edge.sentence);
            if (!document.has(edge.promise, edge.sentence)) {
                complain("the document has no such sentence");
            }
        }
        for (Map.Entry<Integer, List<String>> part : document.due().entrySet()) {
            for (String sentence : part.getValue()) {
                looked++;
                if (!quoted.getOrDefault(part.getKey(), new TreeSet<>()).contains(sentence)) {
                    now = new Edge(part.getKey(), sentence, "no test", null);
                    complain("no test names this sentence");
                }
            }
        }
    }

    int finish(String name) {
        System.out.println(name + ": " + all.size() + " tests, " + looked + " looked at, " + wrong + " wrong");
        return wrong;
    }
}
