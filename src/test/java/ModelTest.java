import java.util.ArrayList;
import java.util.List;
import java.util.Random;
import java.util.function.Supplier;

/** Runs of up to 512 calls, the same ones each time, on LetterRouter and on Model; all answers must agree. */
public final class ModelTest {
    private static final int RUNS = 1500;
    private static final int CALLS = 512;
    private static final int SHOWN = 5;
    private static final int[] EDGES = {-1, -2, 365, 366, 367, Integer.MIN_VALUE, Integer.MAX_VALUE, 16, 20, 30, 99, 100};
    private static final String[] TEXTS = {"p0", "p1w3r", "p2r", "p10", "p19w9r", "p3w1,p4r", "p5,p6,p7w8r", "p0w0",
        "p25", "p1,p30", "p01", "p1r,", "p1,,", "px", "", "p2w9r,p11,p3"};

    private final Random random;
    private final LetterRouter real = new LetterRouter();
    private final Model model = new Model();
    private final List<String> told = new ArrayList<>();
    private int calls = 0;
    private boolean agrees = true;

    private ModelTest(long seed) {
        random = new Random(seed);
    }

    private static String answer(Supplier<Object> call, boolean isReal) {
        try {
            return String.valueOf(call.get());
        } catch (RuntimeException e) {
            if (isReal && ("/ by zero".equals(e.getMessage()) || !e.getStackTrace()[0].getClassName().startsWith("Letter"))) {
                return "thrown by the machine: " + e;
            }
            return e.getClass().getSimpleName();
        }
    }

    private void compare(String call, Supplier<Object> ofReal, Supplier<Object> ofModel) {
        if (!agrees || calls >= CALLS) {
            return;
        }
        calls++;
        String got = answer(ofReal, true);
        String want = answer(ofModel, false);
        told.add(call + " -> " + got);
        if (!got.equals(want)) {
            agrees = false;
            told.add("due: " + want);
        }
    }

    private int below(int bound) {
        return random.nextInt(Math.max(1, bound));
    }

    /** Mostly from 0 to bound - 1, now and then just outside or far away. */
    private int about(int bound) {
        int kind = below(60);
        if (kind == 0) {
            return EDGES[below(EDGES.length)];
        }
        return kind == 1 ? bound : kind == 2 ? -1 : below(bound);
    }

    private int person() {
        return about(model.o.persons.size());
    }

    private int house() {
        return about(model.o.houses.size());
    }

    private int letter() {
        return about(model.o.letters.size());
    }

    private int day() {
        return below(3) == 0 ? about(366) : Math.min(365, model.o.today + below(12) - 2);
    }

    private void build() {
        int a = about(2);
        int b = below(4) == 0 ? about(100) : 1 + below(12);
        int c = below(8);
        int h = house();
        switch (below(5)) {
            case 0, 1:
                compare("addHouse(" + a + ", " + b + ")", () -> real.addHouse(a, b), () -> model.addHouse(a, b));
                break;
            case 2, 3:
                compare("addPerson(" + h + ")", () -> real.addPerson(h), () -> model.addPerson(h));
                break;
            default:
                walk(a, about(3), about(2), b, b + c * 3);
        }
    }

    private void walk(int a, int b, int c, int d, int e) {
        compare("addWalk(" + a + ", " + b + ", " + c + ", " + d + ", " + e + ")",
            () -> real.addWalk(a, b, c, d, e), () -> model.addWalk(a, b, c, d, e));
    }

    private void redirect() {
        int p = person();
        int g = house();
        int h = house();
        int first = day();
        int last = below(20) == 0 ? day() : Math.min(365, first + below(below(2) == 0 ? 6 : 300));
        int r = about(model.o.redirects.size());
        String days = ", " + first + ", " + last + ")";
        switch (below(7)) {
            case 0, 1:
                compare("redirectPerson(" + p + ", " + h + days,
                    () -> real.redirectPerson(p, h, first, last), () -> model.redirectPerson(p, h, first, last));
                break;
            case 2, 3, 4:
                compare("redirectHouse(" + g + ", " + h + days,
                    () -> real.redirectHouse(g, h, first, last), () -> model.redirectHouse(g, h, first, last));
                break;
            default:
                compare("dropRedirect(" + r + ")", () -> real.dropRedirect(r), () -> model.dropRedirect(r));
        }
    }

    private void rule() {
        int p = person();
        int q = person();
        int limit = about(10);
        int first = day();
        int last = below(20) == 0 ? day() : Math.min(365, first + below(5));
        boolean yes = below(4) > 0;
        switch (below(8)) {
            case 0:
                compare("hold(" + p + ", " + last + ")", () -> real.hold(p, last), () -> model.hold(p, last));
                break;
            case 1:
                compare("setLimit(" + p + ", " + limit + ")", () -> real.setLimit(p, limit), () -> model.setLimit(p, limit));
                break;
            case 2, 3, 4:
                compare("allow(" + p + ", " + q + ", " + yes + ")", () -> real.allow(p, q, yes), () -> model.allow(p, q, yes));
                break;
            default:
                compare("leave(" + p + ", " + first + ", " + last + ")",
                    () -> real.leave(p, first, last), () -> model.leave(p, first, last));
        }
    }

    private void post() {
        int p = person();
        int w = 1 + about(9);
        boolean registered = below(3) > 0;
        if (below(4) > 0) {
            compare("addLetter(" + p + ", " + w + ", " + registered + ")",
                () -> real.addLetter(p, w, registered), () -> model.addLetter(p, w, registered));
            return;
        }
        String text = TEXTS[below(TEXTS.length)] + (below(5) == 0 ? "p0w9r,1x".substring(below(8)) : "");
        for (int i = 0; i < text.length(); i++) {
            put(text.charAt(i));
        }
        if (below(8) > 0) {
            compare("arrive()", real::arrive, model::arrive);
            compare("faultPosition()", real::faultPosition, model::faultPosition);
        }
    }

    private void put(char c) {
        compare("append(" + (int) c + ")", () -> {
            real.append(c);
            return "void";
        }, () -> {
            model.append(c);
            return "void";
        });
    }

    private void time() {
        int days = below(3) > 0 ? 1 + below(3) : about(62);
        switch (below(10)) {
            case 0:
                for (int i = below(10); i >= 0; i--) {
                    compare("undo()", real::undo, model::undo);
                }
                break;
            case 1:
                compare("undo()", real::undo, model::undo);
                break;
            case 2:
                compare("save()", () -> {
                    real.save();
                    return "void";
                }, () -> {
                    model.save();
                    return "void";
                });
                break;
            case 3:
                if (below(3) == 0) {
                    compare("restore()", () -> {
                        real.restore();
                        return "void";
                    }, () -> {
                        model.restore();
                        return "void";
                    });
                }
                break;
            default:
                compare("pass(" + days + ")", () -> real.pass(days), () -> model.pass(days));
        }
    }

    private void askOfWays() {
        int p = person();
        int g = house();
        int h = house();
        int d = day();
        int i = about(5) - below(2);
        int w = about(model.o.walks.size());
        switch (below(6)) {
            case 0:
                compare("way(" + p + ", " + d + ", " + i + ")", () -> real.way(p, d, i), () -> model.way(p, d, i));
                break;
            case 1:
                compare("signer(" + p + ", " + d + ")", () -> real.signer(p, d), () -> model.signer(p, d));
                break;
            case 2:
                compare("residents(" + g + ", " + h + ", " + d + ")",
                    () -> real.residents(g, h, d), () -> model.residents(g, h, d));
                break;
            case 3:
                compare("walkOf(" + h + ")", () -> real.walkOf(h), () -> model.walkOf(h));
                break;
            case 4:
                compare("stop(" + w + ", " + i + ")", () -> real.stop(w, i), () -> model.stop(w, i));
                break;
            default:
                compare("stopIndex(" + h + ")", () -> real.stopIndex(h), () -> model.stopIndex(h));
        }
    }

    private void askOfLetters() {
        int l = letter();
        int what = about(11);
        int i = about(20);
        switch (below(9)) {
            case 0, 1:
                compare("letter(" + l + ", " + what + ")", () -> real.letter(l, what), () -> model.letter(l, what));
                break;
            case 2:
                compare("noteLength(" + l + ")", () -> real.noteLength(l), () -> model.noteLength(l));
                break;
            case 3:
                compare("note(" + l + ", " + i + ")", () -> real.note(l, i), () -> model.note(l, i));
                break;
            case 4:
                compare("delivered(" + l + ")", () -> real.delivered(l), () -> model.delivered(l));
                break;
            case 5, 6:
                compare("daysLeft(" + l + ")", () -> real.daysLeft(l), () -> model.daysLeft(l));
                break;
            case 7:
                compare("returned(" + i + ")", () -> real.returned(i), () -> model.returned(i));
                break;
            default:
                compare("account(" + what + ")", () -> real.account(what), () -> model.account(what));
        }
    }

    private void askOfRest() {
        compare("meanDays()", real::meanDays, model::meanDays);
        compare("refusal()", real::refusal, model::refusal);
        compare("today()", real::today, model::today);
    }

    private void tellAll() {
        for (int w = 0; w <= 10; w++) {
            int what = w;
            compare("account(" + what + ")", () -> real.account(what), () -> model.account(what));
        }
        for (int i = 0; i < model.o.letters.size(); i++) {
            int l = i;
            for (int w = 4; w <= 10; w++) {
                int what = w;
                compare("letter(" + l + ", " + what + ")", () -> real.letter(l, what), () -> model.letter(l, what));
            }
        }
    }

    private boolean run() {
        int waking = 6 + below(40);
        for (int i = 0; i < waking; i++) {
            build();
        }
        int busy = 150 + below(300);
        // A run leans to one kind of call, so that the limits of each kind are reached in some runs.
        int favourite = below(100);
        while (agrees && calls < busy) {
            int kind = below(3) == 0 ? favourite : below(100);
            if (kind < 4) {
                build();
            } else if (kind < 22) {
                redirect();
            } else if (kind < 36) {
                rule();
            } else if (kind < 50) {
                post();
            } else if (kind < 62) {
                time();
            } else if (kind < 78) {
                askOfWays();
            } else if (kind < 97) {
                askOfLetters();
            } else {
                askOfRest();
            }
        }
        tellAll();
        return agrees;
    }

    public static void main(String[] args) {
        int wrong = 0;
        long looked = 0;
        for (int seed = 1; seed <= RUNS && wrong < SHOWN; seed++) {
            ModelTest test = new ModelTest(seed);
            if (!test.run()) {
                wrong++;
                System.out.println("run " + seed + ":");
                test.told.forEach(line -> System.out.println("  " + line));
            }
            looked += test.calls;
        }
        System.out.println("ModelTest: " + looked + " calls, " + wrong + " runs wrong");
        if (wrong > 0) {
            System.exit(1);
        }
    }
}
