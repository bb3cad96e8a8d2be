import java.util.function.Supplier;

/** Offices in which the boundaries are tried; each call makes the same one anew. */
final class Scenes {
    static final Supplier<LetterRouter> EMPTY = LetterRouter::new;
    /** The lively and the full office, but with nothing in the text buffer. */
    static final Supplier<LetterRouter> LIVELY_READ = Scenes::livelyRead;
    static final Supplier<LetterRouter> FULL_READ = Scenes::fullRead;
    static final Supplier<LetterRouter> LIVELY = Scenes::lively;
    static final Supplier<LetterRouter> FULL = Scenes::full;
    /** No change is kept, but a snapshot. */
    static final Supplier<LetterRouter> RESTORED = Scenes::restored;
    static final Supplier<LetterRouter> LAST_DAY = Scenes::lastDay;

    private Scenes() {
    }

    static void type(LetterRouter x, String text) {
        for (int i = 0; i < text.length(); i++) {
            x.append(text.charAt(i));
        }
    }

    /** The exception, if there is one, is looked at elsewhere. */
    static void attempt(LetterRouter x, Edges.Act act) {
        try {
            act.on(x);
        } catch (RuntimeException e) {
            return;
        }
    }

    /** Houses 0 to count - 1 in street 0 with the numbers 1 to count, a person in each, one walk for all. */
    static LetterRouter row(int count) {
        LetterRouter x = new LetterRouter();
        for (int i = 0; i < count; i++) {
            x.addHouse(0, i + 1);
            x.addPerson(i);
        }
        x.addWalk(0, 2, 0, 1, 99);
        return x;
    }

    /** 20 persons who live in one house, which no walk serves. */
    static LetterRouter twentyAtHome() {
        LetterRouter x = new LetterRouter();
        x.addHouse(0, 1);
        for (int i = 0; i < 20; i++) {
            x.addPerson(0);
        }
        return x;
    }

    static void pass(LetterRouter x, int days) {
        for (int left = days; left > 0; left -= 60) {
            x.pass(Math.min(left, 60));
        }
    }

    /** Something of all: 4 houses, 4 persons, a walk, 5 redirects, letters in each state, a text, a fault, a reason. */
    private static LetterRouter livelyRead() {
        LetterRouter x = new LetterRouter();
        x.addHouse(0, 2);
        x.addHouse(0, 1);
        x.addHouse(0, 7);
        x.addHouse(4, 99);
        for (int house : new int[] {0, 1, 1, 3}) {
            x.addPerson(house);
        }
        x.addWalk(0, 2, 1, 1, 99);
        redirect(x);
        x.allow(0, 1, true);
        x.allow(0, 2, true);
        x.leave(0, 0, 4);
        x.leave(1, 4, 4);
        x.leave(3, 365, 365);
        x.hold(2, 20);
        x.setLimit(1, 4);
        x.addLetter(0, 3, true);
        x.addLetter(1, 5, false);
        x.addLetter(2, 9, true);
        x.addLetter(3, 1, false);
        x.addLetter(1, 4, false);
        x.addLetter(1, 1, true);
        x.pass(1);
        x.save();
        x.addLetter(1, 2, false);
        x.hold(3, 5);
        type(x, "p4");
        attempt(x, LetterRouter::arrive);
        type(x, "p0w");
        attempt(x, LetterRouter::arrive);
        return x;
    }

    private static LetterRouter lively() {
        LetterRouter x = livelyRead();
        type(x, "p1w2,p0r");
        return x;
    }

    /** Redirect 3 covers redirect 1 on day 45: without it, 1 leads to 2, 2 to 0 and 0 to 1 again. */
    private static void redirect(LetterRouter x) {
        x.redirectPerson(0, 1, 3, 10);
        x.redirectHouse(1, 2, 5, 365);
        x.redirectHouse(2, 0, 40, 50);
        x.redirectHouse(1, 3, 45, 45);
        x.redirectHouse(0, 1, 45, 45);
    }

    /** The lively office with as much of all as is kept. */
    private static LetterRouter fullRead() {
        LetterRouter x = livelyRead();
        for (int i = x.account(0); i < 16; i++) {
            x.addHouse(1, i);
        }
        for (int i = x.account(1); i < 20; i++) {
            x.addPerson(i % 16);
        }
        for (int i = x.account(2); i < 10; i++) {
            x.addWalk(1, i % 3, i % 2, i, 90 + i);
        }
        for (int i = x.account(3); i < 12; i++) {
            x.redirectPerson(i, 0, 0, i);
        }
        for (int i = 3; i < 20; i++) {
            x.leave(i, i, i + 1);
        }
        for (int i = x.account(4); i < 30; i++) {
            x.addLetter(i % 20, 1 + i % 9, i % 2 == 0);
        }
        return x;
    }

    private static LetterRouter full() {
        LetterRouter x = fullRead();
        type(x, "p1w2,p0r,p19w9r,p18w1r,p17w2r,p16w3r,p0r");
        return x;
    }

    private static LetterRouter restored() {
        LetterRouter x = livelyRead();
        x.restore();
        return x;
    }

    private static LetterRouter lastDay() {
        LetterRouter x = livelyRead();
        pass(x, 364);
        x.addLetter(1, 1, true);
        return x;
    }
}
