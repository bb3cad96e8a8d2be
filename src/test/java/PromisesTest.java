import java.util.NoSuchElementException;

/** Each promise of the document by itself: ordinary inputs, named edges, wrong inputs. */
public final class PromisesTest {
    private static final Class<?> ARGUMENT = IllegalArgumentException.class;
    private static final Class<?> STATE = IllegalStateException.class;
    private static final Class<?> INDEX = IndexOutOfBoundsException.class;
    private static final Class<?> REFUSED = UnsupportedOperationException.class;
    private static final Class<?> MISSING = NoSuchElementException.class;
    private static final Class<?> ARITHMETIC = ArithmeticException.class;

    private static final Check CHECK = new Check();

    private static void is(String what, Object got, Object want) {
        CHECK.equal(what, got, want);
    }

    private static void fails(String what, Class<?> due, Check.Call call) {
        CHECK.fails(what, due, call);
    }

    private static Object none(Runnable call) {
        call.run();
        return "no exception";
    }

    /** Houses 0 to count - 1 in street 0 with the numbers 1 to count, a person in each, one walk for all. */
    private static LetterRouter row(int count) {
        LetterRouter x = new LetterRouter();
        for (int i = 0; i < count; i++) {
            x.addHouse(0, i + 1);
            x.addPerson(i);
        }
        x.addWalk(0, 2, 0, 1, 99);
        return x;
    }

    private static void type(LetterRouter x, String text) {
        for (int i = 0; i < text.length(); i++) {
            x.append(text.charAt(i));
        }
    }

    private static String note(LetterRouter x, int letter) {
        StringBuilder out = new StringBuilder();
        for (int i = 0; i < x.noteLength(letter); i++) {
            out.append(x.note(letter, i));
        }
        return out.toString();
    }

    private static void newObject() {
        CHECK.at("1 new object");
        LetterRouter x = new LetterRouter();
        for (int what = 0; what <= 10; what++) {
            is("account " + what, x.account(what), 0);
        }
        is("today", x.today(), 0);
        is("fault", x.faultPosition(), -1);
        fails("undo", STATE, () -> x.undo());
        fails("person", INDEX, () -> x.hold(0, 1));
        LetterRouter other = new LetterRouter();
        x.addHouse(0, 1);
        is("another object's houses", other.account(0), 0);
    }

    private static void addHouse() {
        CHECK.at("2 addHouse");
        LetterRouter x = new LetterRouter();
        fails("street -1", ARGUMENT, () -> x.addHouse(-1, 1));
        fails("street 5", ARGUMENT, () -> x.addHouse(5, 1));
        fails("number 0", ARGUMENT, () -> x.addHouse(0, 0));
        fails("number 100", ARGUMENT, () -> x.addHouse(0, 100));
        is("first", x.addHouse(0, 1), 0);
        is("same number, other street", x.addHouse(4, 1), 1);
        is("highest", x.addHouse(4, 99), 2);
        fails("same of both", ARGUMENT, () -> x.addHouse(4, 99));
        for (int i = 3; i < 16; i++) {
            is("house", x.addHouse(1, i), i);
        }
        fails("17th", STATE, () -> x.addHouse(2, 1));
        fails("17th, but a double", ARGUMENT, () -> x.addHouse(0, 1));
        fails("17th, but out of range", ARGUMENT, () -> x.addHouse(0, 100));
        is("all", x.account(0), 16);
    }

    private static void addPerson() {
        CHECK.at("3 addPerson");
        LetterRouter x = new LetterRouter();
        fails("no house", INDEX, () -> x.addPerson(0));
        x.addHouse(0, 1);
        x.addHouse(0, 2);
        fails("house -1", INDEX, () -> x.addPerson(-1));
        fails("house 2", INDEX, () -> x.addPerson(2));
        for (int i = 0; i < 20; i++) {
            is("person", x.addPerson(i % 2), i);
        }
        fails("21st", STATE, () -> x.addPerson(0));
        fails("21st without a house", INDEX, () -> x.addPerson(2));
        is("home", x.way(19, 0, 0), 1);
        is("no hold", x.hold(19, 3), -1);
        is("no limit", x.setLimit(19, 3), 9);
        is("nobody allowed", x.allow(19, 0, false), false);
        is("not absent", x.signer(19, 0), 19);
        is("not allowed by a later one", x.allow(0, 19, false), false);
    }

    private static void personAfterUndo() {
        CHECK.at("3 addPerson after undo");
        LetterRouter x = row(2);
        int made = x.addPerson(0);
        x.hold(made, 5);
        x.setLimit(made, 2);
        x.allow(made, 0, true);
        x.leave(made, 0, 9);
        for (int i = 0; i < 5; i++) {
            x.undo();
        }
        is("again", x.addPerson(1), made);
        is("hold", x.hold(made, -1), -1);
        is("limit", x.setLimit(made, 9), 9);
        is("allowed", x.allow(made, 0, false), false);
        is("absent", x.signer(made, 0), made);
    }

    private static void addWalk() {
        CHECK.at("4 addWalk");
        LetterRouter x = new LetterRouter();
        x.addHouse(0, 1);
        x.addHouse(0, 2);
        x.addHouse(0, 3);
        x.addHouse(1, 99);
        fails("street -1", ARGUMENT, () -> x.addWalk(-1, 0, 0, 1, 9));
        fails("street 5", ARGUMENT, () -> x.addWalk(5, 0, 0, 1, 9));
        fails("side -1", ARGUMENT, () -> x.addWalk(0, -1, 0, 1, 9));
        fails("side 3", ARGUMENT, () -> x.addWalk(0, 3, 0, 1, 9));
        fails("direction -1", ARGUMENT, () -> x.addWalk(0, 0, -1, 1, 9));
        fails("direction 2", ARGUMENT, () -> x.addWalk(0, 0, 2, 1, 9));
        fails("first 0", ARGUMENT, () -> x.addWalk(0, 0, 0, 0, 9));
        fails("last 100", ARGUMENT, () -> x.addWalk(0, 0, 0, 1, 100));
        fails("first 100", ARGUMENT, () -> x.addWalk(0, 0, 0, 100, 100));
        fails("last 0", ARGUMENT, () -> x.addWalk(0, 0, 0, 0, 0));
        fails("out of order", ARGUMENT, () -> x.addWalk(0, 0, 0, 3, 2));
        is("odd side", x.addWalk(0, 1, 0, 1, 99), 2);
        is("both, but two are taken", x.addWalk(0, 2, 0, 1, 3), 1);
        is("first the same as last", x.addWalk(1, 2, 1, 99, 99), 1);
        is("none left", x.addWalk(1, 2, 1, 1, 99), 0);
        is("even side of the other street", x.addWalk(1, 0, 1, 1, 99), 0);
        for (int i = 5; i < 10; i++) {
            is("walk", x.addWalk(2, 0, 0, 1, 1), 0);
        }
        fails("11th", STATE, () -> x.addWalk(2, 0, 0, 1, 1));
        fails("11th, out of range", ARGUMENT, () -> x.addWalk(2, 0, 0, 2, 1));
        is("walks", x.account(2), 10);
    }

    private static void walkOf() {
        CHECK.at("5 walkOf");
        LetterRouter x = new LetterRouter();
        fails("no house", INDEX, () -> x.walkOf(0));
        x.addHouse(0, 4);
        fails("house -1", INDEX, () -> x.walkOf(-1));
        fails("house 1", INDEX, () -> x.walkOf(1));
        is("none", x.walkOf(0), -1);
        x.addWalk(0, 2, 0, 5, 99);
        x.addWalk(0, 2, 0, 1, 3);
        x.addWalk(1, 2, 0, 1, 99);
        x.addWalk(0, 1, 0, 1, 99);
        is("none of four", x.walkOf(0), -1);
        x.addWalk(0, 0, 0, 4, 4);
        x.addWalk(0, 2, 0, 1, 99);
        is("the lowest that serves", x.walkOf(0), 4);
        is("made later", x.addHouse(0, 6), 1);
        is("a house made later", x.walkOf(1), 0);
        x.addHouse(1, 4);
        is("another street", x.walkOf(2), 2);
    }

    private static void stop() {
        CHECK.at("6 stop");
        LetterRouter x = new LetterRouter();
        fails("no walk", INDEX, () -> x.stop(0, 0));
        x.addHouse(0, 8);
        x.addHouse(0, 2);
        x.addHouse(0, 5);
        x.addHouse(0, 4);
        x.addWalk(0, 0, 1, 1, 99);
        x.addWalk(0, 2, 0, 1, 99);
        fails("walk -1", INDEX, () -> x.stop(-1, 0));
        fails("walk 2", INDEX, () -> x.stop(2, 0));
        fails("index -1", MISSING, () -> x.stop(0, -1));
        fails("index 3", MISSING, () -> x.stop(0, 3));
        is("first of descending", x.stop(0, 0), 0);
        is("second", x.stop(0, 1), 3);
        is("third", x.stop(0, 2), 1);
        is("what is left", x.stop(1, 0), 2);
        x.addHouse(0, 3);
        is("a later house comes ahead", x.stop(1, 0), 4);
        is("and shifts the other", x.stop(1, 1), 2);
        fails("and no more", MISSING, () -> x.stop(1, 2));
        fails("greatest index", MISSING, () -> x.stop(1, Integer.MAX_VALUE));
    }

    private static void stopIndex() {
        CHECK.at("7 stopIndex");
        LetterRouter x = new LetterRouter();
        fails("no house", INDEX, () -> x.stopIndex(0));
        x.addHouse(0, 8);
        x.addHouse(0, 2);
        x.addHouse(0, 5);
        x.addHouse(1, 2);
        fails("house -1", INDEX, () -> x.stopIndex(-1));
        fails("house 4", INDEX, () -> x.stopIndex(4));
        fails("not served", MISSING, () -> x.stopIndex(0));
        x.addWalk(0, 0, 1, 1, 99);
        x.addWalk(0, 2, 0, 1, 99);
        is("descending", x.stopIndex(0), 0);
        is("last of descending", x.stopIndex(1), 1);
        is("alone", x.stopIndex(2), 0);
        x.addHouse(0, 1);
        is("now behind", x.stopIndex(2), 1);
        is("and ahead", x.stopIndex(4), 0);
        fails("other street", MISSING, () -> x.stopIndex(3));
    }

    private static void redirectPerson() {
        CHECK.at("8 redirectPerson");
        LetterRouter x = row(3);
        fails("person -1", INDEX, () -> x.redirectPerson(-1, 0, 0, 1));
        fails("person 3", INDEX, () -> x.redirectPerson(3, 0, 0, 1));
        fails("house -1", INDEX, () -> x.redirectPerson(0, -1, 0, 1));
        fails("house 3", INDEX, () -> x.redirectPerson(0, 3, 0, 1));
        fails("index ahead of days", INDEX, () -> x.redirectPerson(0, 3, 2, 1));
        fails("descending", ARGUMENT, () -> x.redirectPerson(0, 1, 2, 1));
        fails("day -1", ARGUMENT, () -> x.redirectPerson(0, 1, -1, 1));
        fails("day 366", ARGUMENT, () -> x.redirectPerson(0, 1, 1, 366));
        is("on one day", x.redirectPerson(0, 1, 5, 5), 0);
        is("before", x.way(0, 4, 0), 0);
        is("on it", x.way(0, 5, 0), 1);
        is("after", x.way(0, 6, 0), 0);
        is("another person", x.way(1, 5, 0), 1);
        is("home is possible", x.redirectPerson(0, 0, 5, 6), 1);
        is("the greatest number counts", x.way(0, 5, 0), 0);
        is("all days", x.redirectPerson(2, 0, 0, 365), 2);
        is("the last day", x.way(2, 365, 0), 0);
        for (int i = 3; i < 12; i++) {
            is("redirect", x.redirectPerson(1, 0, 0, 0), i);
        }
        fails("13th", REFUSED, () -> x.redirectPerson(1, 0, 0, 0));
        is("reason", x.refusal(), 1);
        fails("13th on wrong days", ARGUMENT, () -> x.redirectPerson(1, 0, 1, 0));
        is("kept", x.account(3), 12);
    }

    private static void redirectHouse() {
        CHECK.at("9 redirectHouse");
        LetterRouter x = row(4);
        fails("from -1", INDEX, () -> x.redirectHouse(-1, 0, 0, 1));
        fails("from 4", INDEX, () -> x.redirectHouse(4, 0, 0, 1));
        fails("to -1", INDEX, () -> x.redirectHouse(0, -1, 0, 1));
        fails("to 4", INDEX, () -> x.redirectHouse(0, 4, 2, 1));
        fails("descending", ARGUMENT, () -> x.redirectHouse(0, 1, 2, 1));
        fails("day -1", ARGUMENT, () -> x.redirectHouse(0, 1, -1, -1));
        fails("day 366", ARGUMENT, () -> x.redirectHouse(0, 1, 366, 366));
        fails("no refusal yet", MISSING, () -> x.refusal());
        fails("to itself", REFUSED, () -> x.redirectHouse(0, 0, 3, 3));
        is("reason", x.refusal(), 2);
        is("first", x.redirectHouse(0, 1, 10, 20), 0);
        is("next", x.redirectHouse(1, 2, 20, 30), 1);
        fails("round on one day", REFUSED, () -> x.redirectHouse(2, 0, 0, 20));
        fails("round on one day, later", REFUSED, () -> x.redirectHouse(2, 0, 20, 365));
        is("just ahead", x.redirectHouse(2, 0, 0, 19), 2);
        is("just behind", x.redirectHouse(2, 0, 21, 365), 3);
        fails("two round", REFUSED, () -> x.redirectHouse(0, 2, 0, 0));
        fails("inside", REFUSED, () -> x.redirectHouse(1, 0, 10, 11));
        is("what is refused is not kept", x.account(3), 4);
        is("way", x.way(0, 10, -1), 1);
    }

    private static void redirectHouseOnDaysThatAreOver() {
        CHECK.at("9 redirectHouse on other days");
        LetterRouter x = row(3);
        x.redirectHouse(0, 1, 0, 1);
        x.pass(10);
        fails("over, but round", REFUSED, () -> x.redirectHouse(1, 0, 0, 1));
        is("reason", x.refusal(), 2);
        x.redirectHouse(0, 2, 0, 0);
        is("covered by a greater number", x.redirectHouse(1, 0, 0, 0), 2);
        is("a person's redirect closes no round", x.redirectPerson(2, 0, 0, 365), 3);
        is("house 0 from person 2", x.way(2, 0, 1), 2);
        while (x.account(3) < 12) {
            x.redirectPerson(0, 0, 0, 0);
        }
        fails("full ahead of round", REFUSED, () -> x.redirectHouse(0, 0, 0, 0));
        is("reason 1", x.refusal(), 1);
    }

    private static void dropRedirect() {
        CHECK.at("10 dropRedirect");
        LetterRouter x = row(3);
        fails("none", INDEX, () -> x.dropRedirect(0));
        x.redirectHouse(0, 1, 0, 10);
        x.redirectHouse(0, 2, 5, 5);
        x.redirectHouse(1, 0, 5, 5);
        fails("-1", INDEX, () -> x.dropRedirect(-1));
        fails("3", INDEX, () -> x.dropRedirect(3));
        fails("the cover of a round", REFUSED, () -> x.dropRedirect(1));
        is("reason", x.refusal(), 2);
        is("kept", x.account(3), 3);
        is("still covered", x.way(0, 5, -1), 2);
        is("drop the first", x.dropRedirect(0), 2);
        is("numbers are less by 1", x.way(0, 5, -1), 2);
        fails("2 is no more", INDEX, () -> x.dropRedirect(2));
        is("now it can go", x.dropRedirect(0), 1);
        is("1 leads to 0", x.way(1, 5, -1), 0);
        is("the last", x.dropRedirect(0), 0);
        is("no redirects", x.way(1, 5, -1), 1);
        is("the order stays", x.redirectPerson(0, 1, 0, 9), 0);
        x.redirectPerson(0, 2, 0, 9);
        x.redirectPerson(0, 0, 0, 9);
        is("drop the greatest", x.dropRedirect(2), 2);
        is("the next greatest counts", x.way(0, 0, 0), 2);
        is("a number again", x.redirectPerson(0, 0, 0, 9), 2);
    }

    private static void dropRedirectOnLaterDay() {
        CHECK.at("10 dropRedirect, a round that opens later");
        LetterRouter x = row(3);
        x.redirectHouse(0, 2, 0, 365);
        x.redirectHouse(0, 1, 100, 200);
        x.redirectHouse(2, 0, 100, 200);
        fails("opens at the last day of another", REFUSED, () -> x.dropRedirect(1));
        is("reason", x.refusal(), 2);
        is("way", x.way(2, 150, -1), 1);
        is("drop the third", x.dropRedirect(2), 2);
        is("then the second", x.dropRedirect(1), 1);
    }

    private static void coverThatEnds() {
        CHECK.at("9 redirectHouse behind a cover that ends");
        LetterRouter x = row(3);
        x.redirectHouse(0, 1, 0, 100);
        x.redirectHouse(0, 2, 0, 50);
        fails("round when the cover has ended", REFUSED, () -> x.redirectHouse(1, 0, 0, 60));
        fails("round on its first day", REFUSED, () -> x.redirectHouse(1, 0, 0, 51));
        is("up to the cover's end", x.redirectHouse(1, 0, 0, 50), 2);
    }

    private static void betweenTwoCovers() {
        CHECK.at("9 redirectHouse between two covers");
        LetterRouter x = row(3);
        x.redirectHouse(0, 1, 0, 365);
        x.redirectHouse(0, 2, 0, 50);
        x.redirectHouse(0, 2, 60, 365);
        fails("round from day 51 to day 59", REFUSED, () -> x.redirectHouse(1, 0, 0, 365));
        is("reason", x.refusal(), 2);
        x.redirectHouse(0, 2, 51, 59);
        is("all covered", x.redirectHouse(1, 0, 0, 365), 4);
        fails("the cover is needed", REFUSED, () -> x.dropRedirect(3));
    }

    private static void dropShiftsAll() {
        CHECK.at("10 dropRedirect, what stays");
        LetterRouter x = row(4);
        x.redirectHouse(3, 2, 0, 365);
        x.redirectPerson(0, 1, 5, 8);
        x.redirectHouse(1, 0, 7, 20);
        is("two remain", x.dropRedirect(0), 2);
        int[] days = {4, 5, 6, 7, 8, 9, 20, 21};
        int[] ends0 = {0, 1, 1, 0, 0, 0, 0, 0};
        int[] ends1 = {1, 1, 1, 0, 0, 0, 0, 1};
        for (int i = 0; i < days.length; i++) {
            is("person 0 on day " + days[i], x.way(0, days[i], -1), ends0[i]);
            is("person 1 on day " + days[i], x.way(1, days[i], -1), ends1[i]);
            is("person 3 on day " + days[i], x.way(3, days[i], -1), 3);
        }
        is("number 1 is the redirect of house 1", x.dropRedirect(1), 1);
        is("gone", x.way(1, 9, -1), 1);
        is("the other stays", x.way(0, 5, -1), 1);
    }

    private static void way() {
        CHECK.at("11 way");
        LetterRouter x = row(4);
        fails("person -1", INDEX, () -> x.way(-1, 0, 0));
        fails("person 4", INDEX, () -> x.way(4, 366, -2));
        fails("day -1", ARGUMENT, () -> x.way(0, -1, 0));
        fails("day 366", ARGUMENT, () -> x.way(0, 366, 0));
        fails("index -2", ARGUMENT, () -> x.way(0, 0, -2));
        is("home", x.way(3, 365, 0), 3);
        is("its end", x.way(3, 365, -1), 3);
        fails("no more", MISSING, () -> x.way(3, 365, 1));
        x.redirectHouse(0, 1, 2, 4);
        x.redirectHouse(1, 2, 3, 5);
        x.redirectHouse(2, 3, 4, 4);
        is("day 1", x.way(0, 1, -1), 0);
        is("day 2", x.way(0, 2, -1), 1);
        is("day 3", x.way(0, 3, -1), 2);
        is("day 4", x.way(0, 4, -1), 3);
        is("day 4, 0", x.way(0, 4, 0), 0);
        is("day 4, 1", x.way(0, 4, 1), 1);
        is("day 4, 2", x.way(0, 4, 2), 2);
        is("day 4, 3", x.way(0, 4, 3), 3);
        fails("day 4, 4", MISSING, () -> x.way(0, 4, 4));
        fails("greatest index", MISSING, () -> x.way(0, 4, Integer.MAX_VALUE));
        x.redirectPerson(3, 1, 4, 4);
        is("starts where the person is led", x.way(3, 4, 0), 1);
        is("and goes on", x.way(3, 4, 1), 2);
        is("round home again is no round", x.way(3, 4, -1), 3);
        LetterRouter all = row(10);
        for (int i = 0; i < 9; i++) {
            all.redirectHouse(i, i + 1, 0, 365);
        }
        is("through ten houses", all.way(0, 9, -1), 9);
        is("the tenth", all.way(0, 9, 9), 9);
        fails("no eleventh", MISSING, () -> all.way(0, 9, 10));
    }

    private static void hold() {
        CHECK.at("12 hold");
        LetterRouter x = row(1);
        fails("person -1", INDEX, () -> x.hold(-1, 0));
        fails("person 1", INDEX, () -> x.hold(1, 999));
        fails("-2", ARGUMENT, () -> x.hold(0, -2));
        fails("366", ARGUMENT, () -> x.hold(0, 366));
        is("first", x.hold(0, 365), -1);
        is("in its place", x.hold(0, 1), 365);
        x.addLetter(0, 1, false);
        is("day 0", x.pass(1), 0);
        is("day 1 counts", x.pass(1), 0);
        is("day 2", x.pass(1), 1);
        is("the day that is over", x.hold(0, -1), 1);
        is("ended", x.hold(0, 0), -1);
        x.hold(0, 300);
        x.addLetter(0, 2, false);
        is("held", x.pass(1), 0);
        x.hold(0, -1);
        is("no longer", x.pass(1), 1);
    }

    private static void allow() {
        CHECK.at("13 allow");
        LetterRouter x = row(2);
        x.addPerson(0);
        fails("person -1", INDEX, () -> x.allow(-1, 0, true));
        fails("person 3", INDEX, () -> x.allow(3, 0, true));
        fails("other -1", INDEX, () -> x.allow(0, -1, true));
        fails("other 3", INDEX, () -> x.allow(0, 3, true));
        fails("both 3", INDEX, () -> x.allow(3, 3, true));
        fails("the same", ARGUMENT, () -> x.allow(1, 1, true));
        is("was not", x.allow(0, 2, true), false);
        is("was", x.allow(0, 2, true), true);
        is("not the other way", x.allow(2, 0, false), false);
        x.leave(0, 0, 9);
        is("signs", x.signer(0, 0), 2);
        is("was, too", x.allow(0, 2, false), true);
        is("was no longer", x.allow(0, 2, false), false);
        fails("nobody", MISSING, () -> x.signer(0, 0));
    }

    private static void setLimit() {
        CHECK.at("14 setLimit");
        LetterRouter x = row(2);
        fails("person -1", INDEX, () -> x.setLimit(-1, 0));
        fails("person 2", INDEX, () -> x.setLimit(2, 10));
        fails("-1", ARGUMENT, () -> x.setLimit(0, -1));
        fails("10", ARGUMENT, () -> x.setLimit(0, 10));
        is("at first", x.setLimit(0, 4), 9);
        is("then", x.setLimit(0, 0), 4);
        is("0", x.setLimit(0, 4), 0);
        is("of another", x.setLimit(1, 9), 9);
        x.addLetter(0, 4, false);
        x.addLetter(0, 5, false);
        x.addLetter(1, 9, false);
        is("delivered", x.pass(1), 2);
        is("at the limit", x.letter(0, 4), 1);
        is("above it", x.letter(1, 6), 2);
        x.setLimit(0, 0);
        x.addLetter(0, 1, false);
        is("nothing at all", x.pass(1), 0);
    }

    private static void leave() {
        CHECK.at("15 leave");
        LetterRouter x = row(2);
        fails("person -1", INDEX, () -> x.leave(-1, 0, 1));
        fails("person 2", INDEX, () -> x.leave(2, 2, 1));
        fails("descending", ARGUMENT, () -> x.leave(0, 2, 1));
        fails("-1", ARGUMENT, () -> x.leave(0, -1, 1));
        fails("366", ARGUMENT, () -> x.leave(0, 0, 366));
        is("first", x.leave(0, 5, 5), 1);
        is("the day ahead", x.signer(0, 4), 0);
        fails("the day", MISSING, () -> x.signer(0, 5));
        is("the day behind", x.signer(0, 6), 0);
        is("another", x.leave(0, 0, 0), 2);
        fails("both hold", MISSING, () -> x.signer(0, 5));
        for (int i = 3; i <= 20; i++) {
            is("kept", x.leave(1, 10, 365), i);
        }
        fails("still kept", MISSING, () -> x.signer(0, 5));
        is("21st", x.leave(1, 10, 365), 20);
        is("the oldest goes", x.signer(0, 5), 0);
        fails("the next stays", MISSING, () -> x.signer(0, 0));
        is("22nd", x.leave(1, 1, 1), 20);
        is("gone, too", x.signer(0, 0), 0);
        fails("the newest", MISSING, () -> x.signer(1, 1));
        is("between", x.signer(1, 2), 1);
        is("no other absence becomes one of person 0", x.signer(0, 10), 0);
    }

    private static void leaveInTurns() {
        CHECK.at("15 leave, 20 of all persons together");
        LetterRouter x = row(3);
        for (int i = 0; i < 25; i++) {
            x.leave(i % 3, 2 * i, 2 * i);
        }
        for (int i = 0; i < 25; i++) {
            int day = 2 * i;
            for (int p = 0; p < 3; p++) {
                int person = p;
                if (i >= 5 && i % 3 == p) {
                    fails("person " + p + " on day " + day, MISSING, () -> x.signer(person, day));
                } else {
                    is("person " + p + " on day " + day, x.signer(p, day), p);
                }
                is("the day behind", x.signer(p, day + 1), p);
            }
        }
    }

    private static void signer() {
        CHECK.at("16 signer");
        LetterRouter x = row(3);
        x.addPerson(1);
        x.addPerson(1);
        fails("person -1", INDEX, () -> x.signer(-1, 0));
        fails("person 5", INDEX, () -> x.signer(5, 366));
        fails("day -1", ARGUMENT, () -> x.signer(0, -1));
        fails("day 366", ARGUMENT, () -> x.signer(0, 366));
        x.allow(0, 1, true);
        x.allow(0, 4, true);
        is("the person first", x.signer(0, 365), 0);
        x.leave(0, 3, 9);
        fails("they live elsewhere", MISSING, () -> x.signer(0, 3));
        x.redirectPerson(0, 1, 4, 9);
        fails("not yet redirected", MISSING, () -> x.signer(0, 3));
        is("at the end of the way", x.signer(0, 4), 1);
        x.leave(1, 5, 5);
        is("the first is absent", x.signer(0, 5), 4);
        is("and the others are not asked", x.allow(0, 3, true), false);
        is("the lowest number", x.signer(0, 5), 3);
        x.redirectHouse(1, 2, 8, 9);
        fails("the end is another house", MISSING, () -> x.signer(0, 8));
        x.allow(0, 2, true);
        is("who lives there", x.signer(0, 8), 2);
        x.redirectPerson(2, 0, 0, 365);
        is("redirected, but lives there", x.signer(0, 8), 2);
        is("the person wherever it lives", x.signer(0, 10), 0);
        x.allow(2, 0, true);
        x.leave(2, 20, 20);
        is("the one whose letters come to 0", x.signer(2, 20), 0);
        fails("allowed by another is not enough", MISSING, () -> {
            x.leave(3, 30, 30);
            return x.signer(3, 30);
        });
    }

    private static void residents() {
        CHECK.at("17 residents");
        LetterRouter x = row(3);
        x.addPerson(0);
        x.addPerson(0);
        fails("house -1", INDEX, () -> x.residents(-1, 0, 0));
        fails("house 3", INDEX, () -> x.residents(3, 0, 366));
        fails("end -1", INDEX, () -> x.residents(0, -1, 0));
        fails("end 3", INDEX, () -> x.residents(0, 3, 0));
        fails("day -1", ARGUMENT, () -> x.residents(0, 0, -1));
        fails("day 366", ARGUMENT, () -> x.residents(0, 0, 366));
        is("at home", x.residents(0, 0, 0), 3);
        is("not elsewhere", x.residents(0, 1, 0), 0);
        x.redirectPerson(3, 1, 2, 4);
        is("one less", x.residents(0, 0, 2), 2);
        is("one in 1", x.residents(0, 1, 2), 1);
        is("the others of 1 do not count", x.residents(1, 1, 2), 1);
        x.redirectHouse(1, 2, 3, 3);
        is("further on", x.residents(0, 2, 3), 1);
        is("not on the way", x.residents(0, 1, 3), 0);
        is("the day behind", x.residents(0, 0, 5), 3);
    }

    private static void addLetter() {
        CHECK.at("18 addLetter");
        LetterRouter x = row(2);
        fails("person -1", INDEX, () -> x.addLetter(-1, 1, true));
        fails("person 2", INDEX, () -> x.addLetter(2, 0, true));
        fails("weight 0", ARGUMENT, () -> x.addLetter(0, 0, true));
        fails("weight 10", ARGUMENT, () -> x.addLetter(0, 10, true));
        is("first", x.addLetter(0, 1, true), 0);
        x.pass(3);
        is("second", x.addLetter(1, 9, false), 1);
        is("person", x.letter(1, 0), 1);
        is("weight", x.letter(1, 1), 9);
        is("registered", x.letter(0, 2), 1);
        is("not registered", x.letter(1, 2), 0);
        is("came", x.letter(1, 3), 3);
        is("waits", x.letter(1, 4), 0);
        for (int i = 2; i < 30; i++) {
            is("letter", x.addLetter(0, 1, false), i);
        }
        fails("31st", REFUSED, () -> x.addLetter(0, 1, false));
        is("reason", x.refusal(), 1);
        fails("31st without weight", ARGUMENT, () -> x.addLetter(0, 0, false));
        fails("31st without person", INDEX, () -> x.addLetter(2, 1, false));
        x.pass(1);
        fails("ever made", REFUSED, () -> x.addLetter(0, 1, false));
    }

    private static void append() {
        CHECK.at("19 append");
        LetterRouter x = row(1);
        char[] odd = {0, ' ', '\n', (char) 233, '\uffff', '\ud800'};
        for (char c : odd) {
            is("any", none(() -> x.append(c)), "no exception");
            fails("fault", ARGUMENT, () -> x.arrive());
            is("at", x.faultPosition(), 0);
        }
        for (int i = 0; i < 40; i++) {
            x.append("p0,".charAt(i % 3));
        }
        fails("41st", STATE, () -> none(() -> x.append('x')));
        fails("ends too early", ARGUMENT, () -> x.arrive());
        is("position 40", x.faultPosition(), 40);
        is("room again", none(() -> x.append('p')), "no exception");
        x.append('0');
        is("a letter", x.arrive(), 1);
        type(x, "p0,p0,p0,p0,p0,p0,p0,p0,p0,p0,p0,p0w3r");
        type(x, "");
        is("twelve", x.arrive(), 12);
        is("the last", note(x, 12), "p0w3r?");
        type(x, "p0r,p0r,p0r,p0r,p0r,p0r,p0r,p0r,p0r,p0w1");
        fails("full", STATE, () -> none(() -> x.append('r')));
        is("forty", x.arrive(), 10);
    }

    private static void arrive() {
        CHECK.at("20 arrive");
        LetterRouter x = row(12);
        type(x, "p11w9r,p0,p3r,p10w2");
        is("four", x.arrive(), 4);
        is("0", note(x, 0), "p11w9r?");
        is("1", note(x, 1), "p0w1?");
        is("2", note(x, 2), "p3w1r?");
        is("3", note(x, 3), "p10w2?");
        fails("emptied", ARGUMENT, () -> x.arrive());
        is("too early at 0", x.faultPosition(), 0);
        type(x, "p0,p12");
        fails("no such person", REFUSED, () -> x.arrive());
        is("reason 3", x.refusal(), 3);
        is("position", x.faultPosition(), -1);
        is("none of them", x.account(4), 4);
        type(x, "p99");
        fails("no such person 99", REFUSED, () -> x.arrive());
        is("undo takes the four", x.undo(), 7);
        is("none", x.account(4), 0);
        x.pass(2);
        type(x, "p1");
        is("one", x.arrive(), 1);
        is("came today", x.letter(0, 3), 2);
    }

    private static void arriveReasons() {
        CHECK.at("20 arrive, reasons");
        LetterRouter x = row(1);
        for (int i = 0; i < 28; i++) {
            x.addLetter(0, 1, false);
        }
        type(x, "p0,p0,p0");
        fails("31", REFUSED, () -> x.arrive());
        is("reason 1", x.refusal(), 1);
        is("none of them", x.account(4), 28);
        type(x, "p0,p5,p0");
        fails("the second letter is looked at first", REFUSED, () -> x.arrive());
        is("reason 3", x.refusal(), 3);
        type(x, "p0,p0,p5");
        fails("of each, 1 ahead of 3", REFUSED, () -> x.arrive());
        is("reason 1 again", x.refusal(), 1);
        type(x, "p0,p5,px");
        fails("a fault ahead of reasons", ARGUMENT, () -> x.arrive());
        is("its position", x.faultPosition(), 7);
        type(x, "p0,p0");
        is("30", x.arrive(), 2);
        type(x, "p7");
        fails("full ahead of the person", REFUSED, () -> x.arrive());
        is("reason 1 at last", x.refusal(), 1);
    }

    private static void faultPosition() {
        CHECK.at("21 faultPosition");
        String[] texts = {"", "x", "P0", "p", "px", "p01", "p00", "p123", "p0w", "p0w0", "p0wr", "p0w12", "p0rr",
            "p0rw1", "p0,", "p0,,", ",p0", "p0,p", "p0 ", "p0p0", "p10w3r,p1w", "p1w3r,p1w", "p-1", "p0w9rx", "p0x",
            "p/", "p:", "p1/", "p1:", "p0w:", "p0w/", "p" + (char) 0x661};
        int[] at = {0, 0, 0, 1, 1, 2, 2, 3, 3, 3, 3, 4, 3,
            3, 3, 3, 0, 4, 2, 2, 10, 9, 1, 5, 2,
            1, 1, 2, 2, 3, 3, 1};
        LetterRouter x = row(11);
        is("not called", x.faultPosition(), -1);
        for (int i = 0; i < texts.length; i++) {
            type(x, texts[i]);
            fails("text " + texts[i], ARGUMENT, () -> x.arrive());
            is("fault of " + texts[i], x.faultPosition(), at[i]);
        }
        is("no letter", x.account(4), 0);
        type(x, "p0");
        is("stays while the text grows", x.faultPosition(), 1);
        x.hold(0, 3);
        x.undo();
        is("stays at undo", x.faultPosition(), 1);
        x.arrive();
        is("no fault", x.faultPosition(), -1);
    }

    private static void refusal() {
        CHECK.at("22 refusal");
        LetterRouter x = row(2);
        fails("none", MISSING, () -> x.refusal());
        fails("an exception of another kind", INDEX, () -> x.hold(9, 9));
        fails("still none", MISSING, () -> x.refusal());
        x.save();
        type(x, "p9");
        fails("3", REFUSED, () -> x.arrive());
        is("reason 3", x.refusal(), 3);
        x.addLetter(0, 1, false);
        x.undo();
        is("stays at undo", x.refusal(), 3);
        fails("2", REFUSED, () -> x.redirectHouse(1, 1, 0, 0));
        is("reason 2", x.refusal(), 2);
        x.restore();
        is("stays at restore", x.refusal(), 2);
        for (int i = 0; i < 30; i++) {
            x.addLetter(0, 1, false);
        }
        is("stays at success", x.refusal(), 2);
        fails("1", REFUSED, () -> x.addLetter(0, 1, false));
        is("reason 1", x.refusal(), 1);
        is("asked again", x.refusal(), 1);
    }

    private static void numbers(LetterRouter x, int letter, int... want) {
        for (int what = 0; what <= 10; what++) {
            is("letter " + letter + ", " + what, x.letter(letter, what), want[what]);
        }
    }

    private static void letter() {
        CHECK.at("23 letter");
        LetterRouter x = row(3);
        fails("none", INDEX, () -> x.letter(0, 0));
        x.allow(1, 2, true);
        x.redirectPerson(1, 2, 0, 365);
        x.pass(1);
        x.addLetter(0, 7, false);
        x.addLetter(1, 4, true);
        x.setLimit(2, 3);
        x.addLetter(2, 4, true);
        fails("-1", INDEX, () -> x.letter(-1, 0));
        fails("3", INDEX, () -> x.letter(3, 11));
        fails("what -1", ARGUMENT, () -> x.letter(0, -1));
        fails("what 11", ARGUMENT, () -> x.letter(0, 11));
        numbers(x, 1, 1, 4, 1, 1, 0, -1, -1, 0, -1, -1, -1);
        x.leave(1, 0, 9);
        x.leave(2, 0, 1);
        x.pass(1);
        numbers(x, 0, 0, 7, 0, 1, 1, 1, -1, 0, 0, -1, 0);
        numbers(x, 1, 1, 4, 1, 1, 0, -1, -1, 1, -1, -1, -1);
        numbers(x, 2, 2, 4, 1, 1, 2, 1, 2, 0, -1, -1, -1);
        x.pass(1);
        numbers(x, 1, 1, 4, 1, 1, 1, 2, -1, 1, 2, 2, 1);
    }

    private static void noteLength() {
        CHECK.at("24 noteLength");
        LetterRouter x = row(1);
        fails("none", INDEX, () -> x.noteLength(0));
        x.addLetter(0, 1, true);
        fails("-1", INDEX, () -> x.noteLength(-1));
        fails("1", INDEX, () -> x.noteLength(1));
        is("p0w1r?", x.noteLength(0), 6);
        x.pass(11);
        is("p0w1r>0/0@0", x.noteLength(0), 11);
        x.addLetter(0, 1, false);
        is("p0w1?", x.noteLength(1), 5);
        x.pass(1);
        is("p0w1>0@11", x.noteLength(1), 9);
    }

    private static void noteCharacters() {
        CHECK.at("25 note");
        LetterRouter x = row(14);
        fails("none", INDEX, () -> x.note(0, 0));
        x.addLetter(13, 9, true);
        x.addLetter(12, 1, false);
        x.setLimit(11, 0);
        x.addLetter(11, 8, false);
        x.hold(0, 365);
        x.addLetter(0, 2, true);
        x.leave(13, 0, 1);
        x.leave(10, 0, 365);
        x.addLetter(10, 1, true);
        fails("letter -1", INDEX, () -> x.note(-1, 0));
        fails("letter 5", INDEX, () -> x.note(5, -1));
        fails("index -1", MISSING, () -> x.note(0, -1));
        fails("index 7", MISSING, () -> x.note(0, 7));
        is("waits", note(x, 0), "p13w9r?");
        x.pass(1);
        is("a failed try", note(x, 0), "p13w9r?x1");
        is("delivered", note(x, 1), "p12w1>12@0");
        is("returned", note(x, 2), "p11w8<2@0");
        is("held", note(x, 3), "p0w2r?");
        x.pass(2);
        is("signed behind two tries", note(x, 0), "p13w9r>13/13@2x2");
        is("three tries", note(x, 4), "p10w1r<3@2x3");
        x.pass(28);
        is("too old", note(x, 3), "p0w2r<4@30");
    }

    private static void noteOfOldLetterWithTries() {
        CHECK.at("25 note, tries ahead of reason 4");
        LetterRouter x = row(1);
        x.addLetter(0, 1, true);
        x.leave(0, 0, 365);
        x.pass(1);
        x.hold(0, 29);
        x.pass(29);
        is("one try", note(x, 0), "p0w1r?x1");
        is("forecast", x.daysLeft(0), 1);
        x.pass(1);
        is("a second try on the last day", note(x, 0), "p0w1r<4@30x2");
        is("tries", x.account(10), 2);
    }

    private static void delivered() {
        CHECK.at("26 delivered");
        LetterRouter x = new LetterRouter();
        fails("none", MISSING, () -> x.delivered(0));
        int[] numbers = {6, 2, 4, 3};
        for (int i = 0; i < 4; i++) {
            x.addHouse(0, numbers[i]);
            x.addPerson(i);
        }
        x.addHouse(1, 1);
        x.addPerson(4);
        x.addWalk(1, 2, 0, 1, 99);
        x.addWalk(0, 0, 1, 1, 99);
        x.addWalk(0, 1, 0, 1, 99);
        int[][] letters = {{3, 9}, {1, 5}, {1, 7}, {1, 5}, {2, 1}, {0, 1}, {0, 2}, {4, 1}};
        for (int[] l : letters) {
            x.addLetter(l[0], l[1], false);
        }
        is("all", x.pass(1), 8);
        int[] order = {7, 6, 5, 4, 2, 1, 3, 0};
        for (int i = 0; i < 8; i++) {
            is("number " + i, x.delivered(i), order[i]);
            is("of letter " + order[i], x.letter(order[i], 10), i);
        }
        fails("-1", MISSING, () -> x.delivered(-1));
        fails("8", MISSING, () -> x.delivered(8));
        x.addLetter(4, 1, false);
        x.pass(1);
        is("the numbers go on", x.delivered(8), 8);
        x.undo();
        fails("undone", MISSING, () -> x.delivered(8));
    }

    private static void daysLeft() {
        CHECK.at("27 daysLeft");
        LetterRouter x = row(2);
        fails("none", INDEX, () -> x.daysLeft(0));
        x.addLetter(0, 5, true);
        fails("-1", INDEX, () -> x.daysLeft(-1));
        fails("1", INDEX, () -> x.daysLeft(1));
        is("today", x.daysLeft(0), 1);
        x.leave(0, 0, 0);
        is("tomorrow", x.daysLeft(0), 2);
        x.leave(0, 1, 1);
        is("behind two tries", x.daysLeft(0), 3);
        x.leave(0, 2, 2);
        is("the third try", x.daysLeft(0), 3);
        x.hold(0, 0);
        is("the hold shifts the tries", x.daysLeft(0), 4);
        is("nothing has changed", x.account(10), 0);
        is("no day is over", x.today(), 0);
        x.pass(2);
        is("one try", x.letter(0, 7), 1);
        is("a try was made", x.daysLeft(0), 2);
        x.setLimit(0, 4);
        is("refused", x.daysLeft(0), 1);
        x.hold(0, 365);
        is("reason 4", x.daysLeft(0), 29);
        x.pass(28);
        is("the last day", x.daysLeft(0), 1);
        x.pass(1);
        fails("no longer", STATE, () -> x.daysLeft(0));
    }

    private static void daysLeftAtTheEnd() {
        CHECK.at("27 daysLeft at the end");
        LetterRouter x = row(1);
        for (int i = 0; i < 6; i++) {
            x.pass(56);
        }
        is("day 336", x.today(), 336);
        x.pass(1);
        x.pass(1);
        x.hold(0, 365);
        x.addLetter(0, 1, false);
        fails("30 days before would be day 368", MISSING, () -> x.daysLeft(0));
        x.hold(0, 363);
        is("the last day that goes by is 364", x.daysLeft(0), 27);
        x.hold(0, 364);
        fails("not on day 365", MISSING, () -> x.daysLeft(0));
        x.pass(27);
        is("day 365", x.today(), 365);
        x.hold(0, -1);
        fails("day 365 never ends", MISSING, () -> x.daysLeft(0));
    }

    private static void daysLeftOnChangingWays() {
        CHECK.at("27 daysLeft on other days' ways");
        LetterRouter x = row(2);
        x.addHouse(4, 4);
        x.addLetter(0, 1, true);
        x.hold(0, 3);
        x.redirectHouse(0, 2, 4, 4);
        is("no walk there", x.daysLeft(0), 5);
        x.hold(0, 4);
        x.leave(0, 0, 365);
        x.allow(0, 1, true);
        x.redirectPerson(0, 1, 6, 6);
        is("somebody signs there", x.daysLeft(0), 7);
        x.pass(7);
        is("so it came", note(x, 0), "p0w1r>1/1@6x1");
    }

    private static void pass() {
        CHECK.at("28 pass");
        LetterRouter x = row(3);
        fails("0", ARGUMENT, () -> x.pass(0));
        fails("-1", ARGUMENT, () -> x.pass(-1));
        fails("61", ARGUMENT, () -> x.pass(61));
        fails("greatest", ARGUMENT, () -> x.pass(Integer.MAX_VALUE));
        x.hold(0, 1);
        x.addLetter(0, 1, false);
        x.addLetter(1, 1, false);
        is("of three days", x.pass(3), 2);
        is("no more", x.pass(60), 0);
        is("today", x.today(), 63);
        for (int i = 0; i < 5; i++) {
            x.pass(60);
        }
        fails("past the end", ARGUMENT, () -> x.pass(3));
        is("still", x.today(), 363);
        is("to the end", x.pass(2), 0);
        is("365", x.today(), 365);
        fails("no more days", ARGUMENT, () -> x.pass(1));
    }

    private static void passOrderOfReasons() {
        CHECK.at("28 pass, reasons");
        LetterRouter x = row(2);
        x.addHouse(3, 3);
        x.addPerson(2);
        x.setLimit(2, 1);
        x.setLimit(1, 1);
        x.leave(1, 0, 365);
        x.addLetter(2, 5, true);
        x.addLetter(1, 5, true);
        x.addLetter(1, 1, true);
        x.addLetter(1, 1, false);
        is("one is delivered", x.pass(1), 1);
        is("1 ahead of 2", x.letter(0, 6), 1);
        is("2 ahead of a try", x.letter(1, 6), 2);
        is("no try", x.letter(1, 7), 0);
        is("a try", x.letter(2, 7), 1);
        is("needs no signer", x.letter(3, 4), 1);
        x.hold(1, 1);
        x.pass(1);
        is("no try on hold", x.letter(2, 7), 1);
        x.pass(2);
        is("third try", x.letter(2, 6), 3);
        is("its day", x.letter(2, 5), 3);
        is("its tries", x.letter(2, 7), 3);
    }

    private static void passOldLetters() {
        CHECK.at("28 pass, old letters");
        LetterRouter x = row(2);
        x.hold(0, 29);
        x.hold(1, 30);
        x.pass(1);
        x.undo();
        x.addLetter(0, 1, false);
        x.addLetter(1, 1, false);
        is("29 days", x.pass(30), 0);
        is("both wait", x.account(5), 2);
        is("delivered on the 30th", x.pass(1), 1);
        is("0", note(x, 0), "p0w1>0@30");
        is("1", note(x, 1), "p1w1<4@30");
    }

    private static void passDeliversWhereTheWayEnds() {
        CHECK.at("28 pass, ends of ways");
        LetterRouter x = row(4);
        x.redirectPerson(0, 1, 0, 0);
        x.redirectHouse(1, 3, 0, 0);
        x.redirectHouse(2, 0, 1, 1);
        x.addLetter(0, 1, false);
        x.addLetter(1, 2, false);
        x.addLetter(2, 1, false);
        x.addLetter(3, 3, true);
        is("all", x.pass(1), 4);
        is("0", note(x, 0), "p0w1>3@0");
        is("1", note(x, 1), "p1w2>3@0");
        is("2", note(x, 2), "p2w1>2@0");
        is("3", note(x, 3), "p3w3r>3/3@0");
        int[] order = {2, 3, 1, 0};
        for (int i = 0; i < 4; i++) {
            is("order", x.delivered(i), order[i]);
        }
        x.addLetter(2, 1, false);
        x.pass(1);
        is("the day after", note(x, 4), "p2w1>0@1");
    }

    private static void today() {
        CHECK.at("29 today");
        LetterRouter x = new LetterRouter();
        is("at first", x.today(), 0);
        x.pass(60);
        is("60", x.today(), 60);
        x.save();
        x.pass(1);
        is("61", x.today(), 61);
        x.undo();
        is("undone", x.today(), 60);
        x.pass(5);
        x.restore();
        is("restored", x.today(), 60);
    }

    private static void account() {
        CHECK.at("30 account");
        LetterRouter x = row(3);
        fails("-1", ARGUMENT, () -> x.account(-1));
        fails("11", ARGUMENT, () -> x.account(11));
        x.addHouse(1, 1);
        x.addHouse(1, 2);
        x.addPerson(3);
        x.addWalk(2, 2, 0, 1, 99);
        x.redirectPerson(2, 1, 0, 0);
        x.redirectPerson(2, 1, 0, 0);
        x.redirectPerson(2, 1, 0, 0);
        x.leave(2, 0, 365);
        x.hold(1, 365);
        x.addLetter(0, 1, false);
        x.addLetter(1, 2, false);
        x.addLetter(1, 4, true);
        x.addLetter(2, 8, true);
        x.addLetter(3, 9, false);
        x.addLetter(3, 9, false);
        x.addLetter(3, 9, false);
        x.pass(1);
        int[] want = {5, 4, 2, 3, 7, 3, 1, 3, 14, 2, 1};
        for (int what = 0; what <= 10; what++) {
            is("account " + what, x.account(what), want[what]);
        }
        x.pass(2);
        is("tries of returned letters", x.account(10), 3);
        is("weight", x.account(8), 6);
        x.addWalk(1, 0, 0, 1, 99);
        is("not served", x.account(9), 1);
        x.dropRedirect(0);
        is("redirects", x.account(3), 2);
    }

    private static void returned() {
        CHECK.at("31 returned");
        LetterRouter x = row(3);
        x.addHouse(1, 1);
        x.addPerson(3);
        fails("0", ARGUMENT, () -> x.returned(0));
        fails("-1", ARGUMENT, () -> x.returned(-1));
        fails("5", ARGUMENT, () -> x.returned(5));
        x.setLimit(1, 1);
        x.leave(2, 0, 365);
        x.hold(0, 365);
        int[] persons = {3, 1, 1, 2, 2, 2, 0, 0, 0, 0, 1};
        for (int person : persons) {
            x.addLetter(person, person == 1 ? 2 : 1, true);
        }
        for (int reason = 1; reason <= 4; reason++) {
            is("nothing yet", x.returned(reason), 0);
        }
        x.pass(31);
        is("1", x.returned(1), 1);
        is("2", x.returned(2), 3);
        is("3", x.returned(3), 3);
        is("4", x.returned(4), 4);
    }

    private static void meanDays() {
        CHECK.at("32 meanDays");
        LetterRouter x = row(2);
        fails("none", ARITHMETIC, () -> x.meanDays());
        x.setLimit(1, 0);
        x.addLetter(1, 1, false);
        x.pass(1);
        fails("returned only", ARITHMETIC, () -> x.meanDays());
        x.addLetter(0, 1, false);
        x.pass(1);
        is("same day", x.meanDays(), 0.0);
        x.addLetter(0, 1, false);
        x.hold(0, 3);
        x.pass(1);
        x.addLetter(0, 1, false);
        x.pass(2);
        is("(0 + 2 + 1) / 3", x.meanDays(), 1.0);
        x.addLetter(0, 1, false);
        x.pass(1);
        is("3 / 4", x.meanDays(), 0.75);
        x.addLetter(0, 1, false);
        x.addLetter(0, 1, false);
        x.addLetter(0, 1, false);
        x.pass(1);
        is("3 / 7", x.meanDays(), 3.0 / 7.0);
    }

    private static void undo() {
        CHECK.at("33 undo");
        LetterRouter x = new LetterRouter();
        fails("nothing", STATE, () -> x.undo());
        x.addHouse(0, 1);
        is("one", x.undo(), 0);
        is("no house", x.account(0), 0);
        fails("nothing again", STATE, () -> x.undo());
        x.addHouse(0, 2);
        is("the house before does not count", x.addHouse(0, 1), 1);
        x.addPerson(0);
        x.addPerson(0);
        x.addWalk(0, 2, 0, 1, 99);
        x.redirectHouse(0, 1, 0, 5);
        x.redirectPerson(0, 1, 0, 5);
        x.dropRedirect(0);
        x.hold(0, 5);
        x.allow(0, 1, true);
        x.setLimit(0, 5);
        x.leave(0, 0, 5);
        x.addLetter(0, 5, true);
        x.pass(10);
        is("at most 8", x.undo(), 7);
        is("day", x.today(), 0);
        is("waits", note(x, 0), "p0w5r?");
        is("letter", x.undo(), 6);
        is("letters", x.account(4), 0);
        is("absence", x.undo(), 5);
        is("there", x.signer(0, 0), 0);
        is("limit", x.undo(), 4);
        is("allow", x.undo(), 3);
        is("hold", x.undo(), 2);
        is("drop", x.undo(), 1);
        is("dropped is back", x.account(3), 2);
        is("in its place", x.way(1, 0, 0), 0);
        is("and holds", x.way(1, 0, -1), 1);
        is("redirect of a person", x.undo(), 0);
        is("one redirect", x.account(3), 1);
        fails("the ninth", STATE, () -> x.undo());
        is("limit is back", x.setLimit(0, 1), 9);
        is("allowed is back", x.allow(0, 1, false), false);
        is("hold is back", x.hold(0, 1), -1);
        is("kept again", x.undo(), 2);
    }

    private static void undoOfWhatChangesNothing() {
        CHECK.at("33 undo, what is a change");
        LetterRouter x = row(2);
        type(x, "p0");
        x.addLetter(0, 1, false);
        x.hold(0, -1);
        x.setLimit(0, 9);
        x.allow(0, 1, false);
        fails("no change: an exception", INDEX, () -> x.hold(7, 0));
        fails("no change: refused", REFUSED, () -> x.redirectHouse(0, 0, 0, 0));
        x.today();
        x.account(0);
        x.way(0, 0, 0);
        x.save();
        is("the allow", x.undo(), 7);
        is("the limit", x.undo(), 6);
        is("the hold", x.undo(), 5);
        is("waits still", x.account(4), 1);
        is("the letter", x.undo(), 4);
        is("no letter", x.account(4), 0);
        is("the text has stayed", x.arrive(), 1);
        is("one letter", x.account(4), 1);
        is("the arrival", x.undo(), 4);
        is("no letter again", x.account(4), 0);
        fails("the text is not back", ARGUMENT, () -> x.arrive());
        is("the walk", x.undo(), 3);
        is("no walk", x.account(2), 0);
        is("persons", x.account(1), 2);
        is("the person", x.undo(), 2);
        is("persons less one", x.account(1), 1);
        x.addPerson(0);
        is("a new change", x.undo(), 2);
        x.restore();
        is("the snapshot has not been undone", x.account(2), 1);
    }

    private static void undoManyTimes() {
        CHECK.at("33 undo, many times");
        LetterRouter x = new LetterRouter();
        for (int i = 0; i < 30; i++) {
            x.pass(1);
        }
        for (int i = 7; i >= 5; i--) {
            is("undo", x.undo(), i);
        }
        is("day 27", x.today(), 27);
        x.pass(10);
        x.pass(10);
        for (int i = 6; i >= 0; i--) {
            is("undo again", x.undo(), i);
        }
        is("day 22", x.today(), 22);
        fails("no more", STATE, () -> x.undo());
    }

    private static void undoOfEach() {
        CHECK.at("33 undo of each change");
        LetterRouter x = row(2);
        x.redirectPerson(1, 1, 0, 9);
        x.save();
        Check.Call[] changes = {() -> x.addHouse(0, 9), () -> x.addPerson(0), () -> x.addWalk(0, 0, 0, 1, 9),
            () -> x.redirectPerson(0, 1, 0, 9), () -> x.redirectHouse(0, 1, 0, 9), () -> x.dropRedirect(0),
            () -> x.hold(0, 9), () -> x.allow(0, 1, true), () -> x.setLimit(0, 1), () -> x.leave(0, 0, 9),
            () -> x.addLetter(0, 1, true), () -> {
                type(x, "p0");
                return x.arrive();
            }, () -> x.pass(1)};
        for (int i = 0; i < changes.length; i++) {
            x.restore();
            changes[i].run();
            is("change " + i, x.undo(), 0);
            is("letters", x.account(4), 0);
            is("redirects", x.account(3), 1);
            is("walks", x.account(2), 1);
            is("way", x.way(0, 0, -1), 0);
            is("signer", x.signer(0, 0), 0);
            is("hold", x.hold(0, -1), -1);
            is("limit", x.setLimit(0, 9), 9);
            is("allowed", x.allow(0, 1, false), false);
        }
    }

    private static void save() {
        CHECK.at("34 save");
        LetterRouter x = row(2);
        x.addLetter(0, 1, false);
        x.save();
        is("nothing has changed", x.account(4), 1);
        is("it is no change", x.undo(), 5);
        is("the letter is undone", x.account(4), 0);
        x.restore();
        is("but it was saved", x.account(4), 1);
        x.pass(1);
        x.save();
        x.addHouse(2, 2);
        x.restore();
        is("the later snapshot", x.today(), 1);
        is("its letter", note(x, 0), "p0w1>0@0");
        is("its houses", x.account(0), 2);
    }

    private static void restore() {
        CHECK.at("35 restore");
        LetterRouter x = row(2);
        fails("no snapshot", STATE, () -> none(x::restore));
        is("changes are kept", x.undo(), 4);
        x.addWalk(0, 2, 0, 1, 99);
        x.redirectHouse(0, 1, 0, 5);
        x.leave(0, 0, 2);
        x.allow(0, 1, true);
        x.hold(1, 2);
        x.setLimit(1, 5);
        x.addLetter(0, 5, true);
        x.save();
        type(x, "p1");
        x.pass(9);
        x.dropRedirect(0);
        x.leave(1, 0, 365);
        x.allow(0, 1, false);
        x.hold(1, 9);
        x.setLimit(1, 1);
        x.addHouse(3, 3);
        x.addPerson(2);
        x.addWalk(3, 2, 0, 1, 99);
        x.restore();
        int[] want = {2, 2, 1, 1, 1, 1, 0, 0, 5, 0, 0};
        for (int what = 0; what <= 10; what++) {
            is("account " + what, x.account(what), want[what]);
        }
        is("day", x.today(), 0);
        fails("nothing to undo", STATE, () -> x.undo());
        is("way", x.way(0, 5, -1), 1);
        is("signer", x.signer(0, 0), 1);
        is("the text has stayed", x.arrive(), 1);
        is("the letter", note(x, 1), "p1w1?");
        is("a change", x.undo(), 0);
        is("hold", x.hold(1, 0), 2);
        is("limit", x.setLimit(1, 0), 5);
        is("allowed", x.allow(0, 1, false), true);
        x.pass(60);
        x.restore();
        is("kept and restored again", x.today(), 0);
        is("allowed again", x.allow(0, 1, false), true);
        x.save();
        is("save forgets no change", x.undo(), 0);
    }

    private static void restoreOfWhatWasMadeAnew() {
        CHECK.at("35 restore in place of what was made anew");
        LetterRouter x = new LetterRouter();
        x.addHouse(1, 4);
        x.addHouse(0, 4);
        x.addHouse(0, 6);
        x.addPerson(1);
        x.addWalk(0, 0, 1, 3, 7);
        x.save();
        for (int i = 0; i < 5; i++) {
            x.undo();
        }
        x.addHouse(2, 1);
        x.addHouse(3, 9);
        x.addHouse(3, 8);
        x.addPerson(0);
        x.addWalk(3, 1, 0, 9, 9);
        x.restore();
        fails("house 0", ARGUMENT, () -> x.addHouse(1, 4));
        fails("house 1", ARGUMENT, () -> x.addHouse(0, 4));
        is("home", x.way(0, 0, 0), 1);
        is("not served", x.walkOf(0), -1);
        is("served", x.walkOf(1), 0);
        is("descending", x.stopIndex(1), 1);
        is("also descending", x.stopIndex(2), 0);
        x.addHouse(0, 2);
        is("ahead of the first number", x.walkOf(3), -1);
        x.addHouse(0, 8);
        is("behind the last number", x.walkOf(4), -1);
        x.addHouse(0, 5);
        is("the other side", x.walkOf(5), -1);
        is("what was anew is free", x.addHouse(3, 9), 6);
    }

    private static void restoreOfRulesMadeAnew() {
        CHECK.at("35 restore in place of rules made anew");
        LetterRouter x = row(3);
        x.redirectHouse(0, 1, 3, 4);
        x.leave(0, 3, 4);
        x.save();
        x.undo();
        x.undo();
        x.redirectPerson(1, 2, 6, 7);
        x.leave(1, 6, 7);
        x.restore();
        int[] ends = {0, 0, 0, 1, 1, 0, 0, 0, 0};
        for (int day = 0; day < ends.length; day++) {
            int onDay = day;
            is("person 0, day " + day, x.way(0, day, -1), ends[day]);
            is("person 1, day " + day, x.way(1, day, -1), 1);
            is("signer 1, day " + day, x.signer(1, day), 1);
            if (ends[day] == 1) {
                fails("nobody, day " + day, MISSING, () -> x.signer(0, onDay));
            } else {
                is("signer 0, day " + day, x.signer(0, day), 0);
            }
        }
    }

    private static void restoreOfLettersMadeAnew() {
        CHECK.at("35 restore in place of letters made anew");
        LetterRouter x = row(3);
        x.pass(2);
        x.leave(0, 2, 2);
        x.setLimit(2, 5);
        x.addLetter(0, 3, true);
        x.addLetter(2, 6, false);
        x.addLetter(1, 4, true);
        x.pass(2);
        x.save();
        for (int i = 0; i < 6; i++) {
            x.undo();
        }
        is("from day 2", x.today(), 2);
        x.pass(1);
        x.addLetter(1, 5, false);
        x.addLetter(0, 5, true);
        x.addLetter(2, 9, true);
        x.leave(2, 0, 365);
        x.pass(9);
        x.restore();
        numbers(x, 0, 0, 3, 1, 2, 1, 3, -1, 1, 0, 0, 1);
        numbers(x, 1, 2, 6, 0, 2, 2, 2, 2, 0, -1, -1, -1);
        numbers(x, 2, 1, 4, 1, 2, 1, 2, -1, 0, 1, 1, 0);
        is("first delivery", x.delivered(0), 2);
        is("second delivery", x.delivered(1), 0);
        fails("third delivery", MISSING, () -> x.delivered(2));
        is("mean", x.meanDays(), 0.5);
    }

    /** Every row of the office is full to its last place. */
    private static void fullOffice() {
        CHECK.at("full office");
        LetterRouter x = new LetterRouter();
        for (int i = 0; i < 16; i++) {
            x.addHouse(i % 2, i + 1);
        }
        for (int i = 0; i < 20; i++) {
            x.addPerson(i % 16);
            x.leave(i, 0, 0);
        }
        for (int i = 0; i < 10; i++) {
            x.addWalk(0, 1, i % 2, 1, 15);
        }
        for (int i = 0; i < 12; i++) {
            x.redirectHouse(i + 1, i, 0, 9);
        }
        for (int i = 0; i < 30; i++) {
            x.addLetter(i % 20, 1 + i % 9, true);
        }
        x.allow(12, 0, true);
        x.allow(12, 16, true);
        is("not served", x.account(9), 8);
        is("none for the last", x.walkOf(15), -1);
        is("end of 13 houses", x.way(12, 9, -1), 0);
        is("the thirteenth", x.way(12, 9, 12), 0);
        fails("the fourteenth", MISSING, () -> x.way(12, 9, 13));
        fails("no stop of the last walk", MISSING, () -> x.stop(9, 0));
        is("the last stop", x.stop(0, 7), 14);
        fails("behind it", MISSING, () -> x.stop(0, 8));
        fails("all are absent", MISSING, () -> x.signer(12, 0));
        is("the day after", x.signer(12, 1), 12);
        is("no round", x.dropRedirect(11), 11);
        is("full again", x.redirectHouse(12, 11, 0, 9), 11);
        is("both who live in house 0", x.residents(0, 0, 9), 2);
        is("nobody signs", x.pass(1), 0);
        is("tries", x.account(10), 30 - x.returned(1));
        is("all that are served", x.pass(1), 30 - x.returned(1));
        is("all are done", x.account(5), 0);
        is("numbers", x.letter(x.delivered(x.account(6) - 1), 10), x.account(6) - 1);
        x.save();
        is("undone", x.undo(), 7);
        is("wait", x.account(5), 30 - x.returned(1));
        x.restore();
        is("restored", x.account(5), 0);
    }

    public static void main(String[] args) {
        newObject();
        addHouse();
        addPerson();
        personAfterUndo();
        addWalk();
        walkOf();
        stop();
        stopIndex();
        redirectPerson();
        redirectHouse();
        redirectHouseOnDaysThatAreOver();
        coverThatEnds();
        dropRedirect();
        betweenTwoCovers();
        dropRedirectOnLaterDay();
        dropShiftsAll();
        way();
        hold();
        allow();
        setLimit();
        leave();
        leaveInTurns();
        signer();
        residents();
        addLetter();
        append();
        arrive();
        arriveReasons();
        faultPosition();
        refusal();
        letter();
        noteLength();
        noteCharacters();
        noteOfOldLetterWithTries();
        delivered();
        daysLeft();
        daysLeftAtTheEnd();
        daysLeftOnChangingWays();
        pass();
        passOrderOfReasons();
        passOldLetters();
        passDeliversWhereTheWayEnds();
        today();
        account();
        returned();
        meanDays();
        undo();
        undoOfWhatChangesNothing();
        undoManyTimes();
        undoOfEach();
        save();
        restore();
        restoreOfWhatWasMadeAnew();
        restoreOfRulesMadeAnew();
        restoreOfLettersMadeAnew();
        fullOffice();
        CHECK.finish("PromisesTest");
    }
}
