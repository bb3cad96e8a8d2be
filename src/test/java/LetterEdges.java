import java.util.function.Supplier;

/** The boundaries of promises 18 to 27: letters, texts of arrivals, notes, deliveries and forecasts. */
final class LetterEdges {
    private static final String NO_LETTER = "Throws `IndexOutOfBoundsException` if there is no such letter";
    static final String WHAT =
        "`what`: 0 for its person, 1 for its weight, 2 for 1 if it is registered and 0 if not, 3 for "
        + "the day on which it came, 4 for 0 if it waits, 1 if it was delivered and 2 if it was returned, 5 "
        + "for the day on which that was, 6 for the reason for which it was returned, 7 for its failed "
        + "tries, 8 for the house to which it was delivered, 9 for the person who signed it, 10 for its "
        + "number among all deliveries";
    private static final Supplier<LetterRouter> LIVELY = Scenes.LIVELY;
    private static final Supplier<LetterRouter> FULL = Scenes.FULL;
    private static final Supplier<LetterRouter> EMPTY = Scenes.EMPTY;

    private final Edges e;

    private LetterEdges(Edges e) {
        this.e = e;
    }

    static void addTo(Edges e) {
        LetterEdges all = new LetterEdges(e);
        all.addLetter();
        all.addLetterThrows();
        all.append();
        all.arrive();
        all.arriveThrows();
        all.arriveRefused();
        all.faultPosition();
        all.refusal();
        all.letter();
        all.letterWithoutNumbers();
        all.letterThrows();
        all.noteLength();
        all.note();
        all.delivered();
        all.daysLeft();
        all.daysLeftBehindHolds();
        all.daysLeftThrows();
    }

    private static String note(LetterRouter x, int letter) {
        return Picture.noteOf(x, letter);
    }

    /** One house, one person, a walk and as many letters. */
    private static LetterRouter letters(int count) {
        LetterRouter x = Scenes.row(1);
        for (int i = 0; i < count; i++) {
            x.addLetter(0, 1, false);
        }
        return x;
    }

    private static Object put(LetterRouter x, char c) {
        x.append(c);
        return "appended";
    }

    private void addLetter() {
        e.test(18, "Makes a letter.",
            "to the first and the last person, lightest and heaviest, registered or not", () -> {
            LetterRouter x = Scenes.row(16);
            x.addLetter(0, 1, false);
            x.addLetter(15, 9, true);
            e.is("first", note(x, 0), "p0w1?");
            e.is("last", note(x, 1), "p15w9r?");
        });
        e.test(18, "Returns the number of the letter.", "from 0 to 29", () -> {
            LetterRouter x = Scenes.row(1);
            for (int i = 0; i < 30; i++) {
                e.is("letter " + i, x.addLetter(0, 1, false), i);
            }
        });
        e.test(18, "Returns the number of the letter.",
            "counted together with those of texts, and again when undone", () -> {
            LetterRouter x = Scenes.row(1);
            Scenes.type(x, "p0,p0");
            x.arrive();
            e.is("the third", x.addLetter(0, 1, false), 2);
            x.undo();
            e.is("the third again", x.addLetter(0, 1, false), 2);
        });
    }

    private void addLetterThrows() {
        String index = "Throws `IndexOutOfBoundsException` if there is no such person";
        String argument = "Throws `IllegalArgumentException` if the weight is out of range";
        String refused = "Throws `UnsupportedOperationException` if it is refused for reason 1; the reason is kept "
            + "for refusal";
        e.test(18, index, "nobody is there", () ->
            e.rejects("person 0", Edges.INDEX, EMPTY, x -> x.addLetter(0, 1, false)));
        e.test(18, index, "the first and the last one are there, those next to them are not", () -> {
            e.is("person 0", LIVELY.get().addLetter(0, 1, true), 7);
            e.is("person 3", LIVELY.get().addLetter(3, 1, true), 7);
            for (int person : Edges.outside(0, 3)) {
                e.rejects("person " + person, Edges.INDEX, LIVELY, x -> x.addLetter(person, 1, true));
            }
        });
        e.test(18, index, "listed ahead of the weight and of reason 1", () -> {
            e.rejects("weight 0", Edges.INDEX, LIVELY, x -> x.addLetter(4, 0, true));
            e.rejects("31st letter", Edges.INDEX, FULL, x -> x.addLetter(20, 1, true));
        });
        e.test(18, argument, "1 and 9 are in range, 0 and 10 are not", () -> {
            e.is("weight 1", LIVELY.get().addLetter(1, 1, false), 7);
            e.is("weight 9", LIVELY.get().addLetter(1, 9, false), 7);
            for (int weight : Edges.outside(1, 9)) {
                e.rejects("weight " + weight, Edges.ARGUMENT, LIVELY, x -> x.addLetter(1, weight, false));
            }
        });
        e.test(18, argument, "above the limit of the person is in range", () -> {
            LetterRouter x = Scenes.row(1);
            x.setLimit(0, 0);
            e.is("weight 9", x.addLetter(0, 9, false), 0);
        });
        e.test(18, argument, "listed ahead of reason 1", () ->
            e.rejects("31st letter", Edges.ARGUMENT, FULL, x -> x.addLetter(0, 10, true)));
        e.test(18, refused, "the 30th is made, the 31st is refused", () -> {
            e.is("letters", FULL.get().account(4), 30);
            e.refuses("the 31st", 1, FULL, x -> x.addLetter(0, 1, false));
        });
        e.test(18, refused, "not even when all 30 were delivered", () -> {
            LetterRouter x = letters(30);
            e.is("delivered", x.pass(1), 30);
            e.fails("the 31st", Edges.REFUSED, x, y -> y.addLetter(0, 1, false));
            e.is("reason", x.refusal(), 1);
        });
        e.test(18, refused, "when one of the 30 is undone there is room for one", () -> {
            LetterRouter x = letters(30);
            x.undo();
            e.is("the 30th again", x.addLetter(0, 1, false), 29);
            e.fails("the 31st", Edges.REFUSED, x, y -> y.addLetter(0, 1, false));
        });
    }

    private void append() {
        String any = "`c`: the character, any one";
        String state = "Throws `IllegalStateException` if the buffer contains 40 characters";
        e.test(19, "Appends a character to the text buffer.", "the first and the 40th", () -> {
            LetterRouter x = Scenes.row(1);
            Scenes.type(x, "p0,p0,p0,p0,p0,p0,p0,p0,p0,p0,p0,p0,p0w");
            x.append('9');
            e.is("letters", x.arrive(), 13);
            e.is("the first", note(x, 0), "p0w1?");
            e.is("the last", note(x, 12), "p0w9?");
        });
        e.test(19, any, "the lowest and the highest ones are taken, and read as faults", () -> {
            for (int c : new int[] {0, 1, '\n', ' ', 127, 128, 255, 256, 0xd800, 0xdfff, 0xfffe, 0xffff}) {
                LetterRouter x = Scenes.row(1);
                Scenes.type(x, "p0");
                e.is("character " + c, put(x, (char) c), "appended");
                e.fails("character " + c, Edges.ARGUMENT, x, LetterRouter::arrive);
                e.is("fault of " + c, x.faultPosition(), 2);
            }
        });
        e.test(19, any,
            "digits of other scripts and those that are like others by their low bits are no digits", () -> {
            for (int c : new int[] {0x660, 0x966, 0xff10, '0' + 256, '1' + 65280, 'p' + 256}) {
                LetterRouter x = Scenes.row(1);
                x.append('p');
                x.append((char) c);
                e.fails("character " + c, Edges.ARGUMENT, x, LetterRouter::arrive);
                e.is("fault of " + c, x.faultPosition(), 1);
            }
        });
        e.test(19, state, "the 40th is appended, the 41st is not", () -> {
            LetterRouter x = new LetterRouter();
            for (int i = 1; i <= 40; i++) {
                e.is("character " + i, put(x, 'p'), "appended");
            }
            e.fails("character 41", Edges.STATE, x, y -> put(y, 'p'));
            e.rejects("character 41 of a text", Edges.STATE, FULL, y -> put(y, ','));
        });
        e.test(19, state, "the 40 are read without the 41st", () -> {
            LetterRouter x = Scenes.row(1);
            Scenes.type(x, "p0,p0,p0,p0,p0,p0,p0,p0,p0,p0,p0,p0,p0w9");
            e.fails("character 41", Edges.STATE, x, y -> put(y, 'r'));
            e.is("letters", x.arrive(), 13);
            e.is("the last", note(x, 12), "p0w9?");
        });
        e.test(19, state, "there is room for 40 again behind arrive, whatever it answers", () -> {
            for (String text : new String[] {"p0", "p9", "x", ""}) {
                LetterRouter x = Scenes.row(1);
                Scenes.type(x, text);
                Scenes.attempt(x, LetterRouter::arrive);
                for (int i = 1; i <= 40; i++) {
                    e.is("character " + i + " behind " + text, put(x, 'p'), "appended");
                }
                e.fails("character 41 behind " + text, Edges.STATE, x, y -> put(y, 'p'));
            }
        });
    }

    private void arrive() {
        String reads = "Reads the text buffer as a text of arrivals and makes the letters in their order, all or "
            + "none of them.";
        String emptied = "The buffer is emptied, also if an exception is thrown.";
        String returns = "Returns the number of letters.";
        e.test(20, reads, "all: the last place is for the last letter", () -> {
            LetterRouter x = letters(28);
            Scenes.type(x, "p0w2,p0w3r");
            e.is("letters", x.arrive(), 2);
            e.is("the first", note(x, 28), "p0w2?");
            e.is("the last", note(x, 29), "p0w3r?");
        });
        e.test(20, reads, "all numbers of the first and the last letter, with all parts and with none", () -> {
            LetterRouter x = Scenes.row(16);
            Scenes.pass(x, 365);
            Scenes.type(x, "p0,p15w9r");
            x.arrive();
            numbers(x, 0, 0, 1, 0, 365, 0, -1, -1, 0, -1, -1, -1);
            numbers(x, 1, 15, 9, 1, 365, 0, -1, -1, 0, -1, -1, -1);
        });
        e.test(20, reads, "none: there is a place for the first letter only", () -> {
            LetterRouter x = letters(29);
            Scenes.type(x, "p0w2,p0w3r");
            e.fails("two", Edges.REFUSED, x, LetterRouter::arrive);
            e.is("letters", x.account(4), 29);
        });
        e.test(20, reads, "none: only the last letter's person is lacking", () -> {
            LetterRouter x = Scenes.row(1);
            Scenes.type(x, "p0,p0,p0,p0,p0,p0,p0,p0,p0,p0,p0,p0,p1");
            e.fails("13", Edges.REFUSED, x, LetterRouter::arrive);
            e.is("letters", x.account(4), 0);
        });
        e.test(20, emptied, "behind a success, a fault and a refusal", () -> {
            for (String text : new String[] {"p0", "p0,", "p0,p1"}) {
                LetterRouter x = Scenes.row(1);
                Scenes.type(x, text);
                Scenes.attempt(x, LetterRouter::arrive);
                int letters = x.account(4);
                Scenes.type(x, "p0w7");
                e.is("the next text behind " + text, x.arrive(), 1);
                e.is("its letter", note(x, letters), "p0w7?");
            }
        });
        e.test(20, emptied, "behind 40 characters", () -> {
            LetterRouter x = FULL.get();
            e.fails("31st letter", Edges.REFUSED, x, LetterRouter::arrive);
            e.fails("nothing", Edges.ARGUMENT, x, LetterRouter::arrive);
            e.is("too early at 0", x.faultPosition(), 0);
        });
        e.test(20, returns, "1, and 13 in 40 characters", () -> {
            LetterRouter x = Scenes.row(1);
            Scenes.type(x, "p0");
            e.is("one", x.arrive(), 1);
            Scenes.type(x, "p0,p0,p0,p0,p0,p0,p0,p0,p0,p0,p0,p0,p0w1");
            e.is("13", x.arrive(), 13);
            e.is("all", x.account(4), 14);
        });
        e.test(20, returns, "the first and the last person of 20", () -> {
            LetterRouter x = Scenes.row(1);
            for (int i = 1; i < 20; i++) {
                x.addPerson(0);
            }
            Scenes.type(x, "p0,p19,p9,p10");
            e.is("four", x.arrive(), 4);
            e.is("0", note(x, 0), "p0w1?");
            e.is("19", note(x, 1), "p19w1?");
            e.is("9", note(x, 2), "p9w1?");
            e.is("10", note(x, 3), "p10w1?");
        });
    }

    private void arriveThrows() {
        String argument = "Throws `IllegalArgumentException` if the text has a fault";
        e.test(20, argument, "nothing, a single character, and 40 of them", () -> {
            e.failsToArrive("", Edges.ARGUMENT, 0, "", Scenes.LIVELY_READ);
            e.failsToArrive("p", Edges.ARGUMENT, 1, "", Scenes.LIVELY_READ);
            e.failsToArrive("0", Edges.ARGUMENT, 0, "", Scenes.LIVELY_READ);
            e.failsToArrive("p0,p0,p0,p0,p0,p0,p0,p0,p0,p0,p0,p0,p0r,", Edges.ARGUMENT, 40, "", Scenes.LIVELY_READ);
        });
        e.test(20, argument, "the reason that is kept stays", () -> {
            LetterRouter x = LIVELY.get();
            x.append(',');
            e.fails("too early", Edges.ARGUMENT, x, LetterRouter::arrive);
            e.is("reason", x.refusal(), 3);
        });
        e.test(20, argument, "listed ahead of reasons 1 and 3", () -> {
            e.failsToArrive("p9,p9x", Edges.ARGUMENT, 5, "", Scenes.LIVELY_READ);
            e.failsToArrive("p0,p0x", Edges.ARGUMENT, 5, "", Scenes.FULL_READ);
            e.failsToArrive("p0,p20,", Edges.ARGUMENT, 7, "", Scenes.FULL_READ);
        });
    }

    private void arriveRefused() {
        String refused = "Throws `UnsupportedOperationException` if a letter is refused for reason 1 or 3; the "
            + "reason is kept for refusal";
        e.test(20, refused, "the 31st letter is", () -> {
            e.failsToArrive("p0", Edges.REFUSED, -1, "1", Scenes.FULL_READ);
            e.failsToArrive("p0,p0,p0", Edges.REFUSED, -1, "1", () -> letters(28));
            LetterRouter x = letters(28);
            Scenes.type(x, "p0,p0");
            e.is("30", x.arrive(), 2);
        });
        e.test(20, refused, "one to the person next to the last one is", () -> {
            e.failsToArrive("p4", Edges.REFUSED, -1, "3", Scenes.LIVELY_READ);
            e.failsToArrive("p99", Edges.REFUSED, -1, "3", Scenes.LIVELY_READ);
            e.failsToArrive("p0,p3,p4", Edges.REFUSED, -1, "3", Scenes.LIVELY_READ);
            LetterRouter x = Scenes.LIVELY_READ.get();
            Scenes.type(x, "p3");
            e.is("the last one", x.arrive(), 1);
        });
        e.test(20, refused, "one to person 0 is if nobody is there", () ->
            e.failsToArrive("p0", Edges.REFUSED, -1, "3", EMPTY));
        e.test(20, refused, "one to person 20 is if 20 are there", () -> {
            Supplier<LetterRouter> twenty = () -> {
                LetterRouter x = Scenes.row(16);
                for (int i = 16; i < 20; i++) {
                    x.addPerson(0);
                }
                return x;
            };
            e.failsToArrive("p20", Edges.REFUSED, -1, "3", twenty);
            LetterRouter x = twenty.get();
            Scenes.type(x, "p19");
            e.is("person 19", x.arrive(), 1);
        });
    }

    private void faultPosition() {
        String what = "Returns the fault position of the text of the latest call of arrive.";
        String returns = "Returns the fault position, or -1 if the text had no fault or arrive has not been called.";
        e.test(21, what, "0 of no text at all, 40 of a full buffer", () -> {
            LetterRouter x = new LetterRouter();
            e.fails("no text", Edges.ARGUMENT, x, LetterRouter::arrive);
            e.is("no text", x.faultPosition(), 0);
            Scenes.type(x, "p0,p0,p0,p0,p0,p0,p0,p0,p0,p0,p0,p0,p0r,");
            e.fails("40", Edges.ARGUMENT, x, LetterRouter::arrive);
            e.is("40", x.faultPosition(), 40);
            Scenes.type(x, "p0,p0,p0,p0,p0,p0,p0,p0,p0,p0,p0,p0,p0rr");
            e.fails("the last one", Edges.ARGUMENT, x, LetterRouter::arrive);
            e.is("the last one", x.faultPosition(), 39);
        });
        e.test(21, what, "it stays until arrive is called again", () -> {
            LetterRouter x = Scenes.row(1);
            Scenes.type(x, "p0x");
            e.fails("fault", Edges.ARGUMENT, x, LetterRouter::arrive);
            Scenes.type(x, "p0");
            x.addLetter(0, 1, false);
            e.is("still", x.faultPosition(), 2);
            x.arrive();
            e.is("no more", x.faultPosition(), -1);
        });
        e.test(21, returns, "arrive has not been called", () -> {
            LetterRouter x = new LetterRouter();
            e.is("at first", x.faultPosition(), -1);
            x.append('x');
            e.is("behind append", x.faultPosition(), -1);
        });
        e.test(21, returns, "no fault: the shortest and the longest text", () -> {
            for (String text : new String[] {"p0", "p0,p0,p0,p0,p0,p0,p0,p0,p0,p0,p0,p0,p0w1"}) {
                LetterRouter x = Scenes.row(1);
                Scenes.attempt(x, LetterRouter::arrive);
                Scenes.type(x, text);
                x.arrive();
                e.is("fault of " + text, x.faultPosition(), -1);
            }
        });
        e.test(21, returns, "asking changes nothing", () ->
            e.onlyAnswers("faultPosition", LIVELY, LetterRouter::faultPosition));
    }

    private void refusal() {
        String latest = "Returns the reason for which the latest call that was refused was refused.";
        String missing = "Throws `NoSuchElementException` if none was refused";
        e.test(22, latest, "the later one of two, whatever call it was", () -> {
            LetterRouter x = FULL.get();
            e.fails("letter", Edges.REFUSED, x, y -> y.addLetter(0, 1, false));
            e.is("of addLetter", x.refusal(), 1);
            e.fails("drop", Edges.REFUSED, x, y -> y.dropRedirect(3));
            e.is("of dropRedirect", x.refusal(), 2);
            e.fails("redirect", Edges.REFUSED, x, y -> y.redirectPerson(0, 0, 0, 0));
            e.is("of redirectPerson", x.refusal(), 1);
        });
        e.test(22, latest, "calls that succeed or throw other exceptions leave it", () -> {
            LetterRouter x = LIVELY.get();
            x.addLetter(0, 1, false);
            e.fails("weight", Edges.ARGUMENT, x, y -> y.addLetter(0, 0, false));
            e.is("still", x.refusal(), 3);
        });
        e.test(22, "Returns the reason, 1 to 3.", "1, 2 and 3", () -> {
            LetterRouter x = Scenes.row(1);
            e.fails("2", Edges.REFUSED, x, y -> y.redirectHouse(0, 0, 0, 0));
            e.is("2", x.refusal(), 2);
            Scenes.type(x, "p1");
            e.fails("3", Edges.REFUSED, x, LetterRouter::arrive);
            e.is("3", x.refusal(), 3);
            for (int i = 0; i < 12; i++) {
                x.redirectPerson(0, 0, 0, 0);
            }
            e.fails("1", Edges.REFUSED, x, y -> y.redirectHouse(0, 0, 0, 0));
            e.is("1", x.refusal(), 1);
        });
        e.test(22, missing, "at first, and behind other exceptions", () -> {
            e.rejects("at first", Edges.MISSING, EMPTY, LetterRouter::refusal);
            LetterRouter x = new LetterRouter();
            e.fails("house", Edges.ARGUMENT, x, y -> y.addHouse(5, 0));
            e.fails("fault", Edges.ARGUMENT, x, LetterRouter::arrive);
            e.fails("undo", Edges.STATE, x, LetterRouter::undo);
            e.fails("still none", Edges.MISSING, x, LetterRouter::refusal);
        });
        e.test(22, missing, "just below the limits none is refused", () -> {
            LetterRouter x = letters(30);
            for (int i = 0; i < 12; i++) {
                x.redirectPerson(0, 0, 0, 0);
            }
            e.fails("none", Edges.MISSING, x, LetterRouter::refusal);
        });
    }

    private void numbers(LetterRouter x, int letter, int... due) {
        for (int what = 0; what <= 10; what++) {
            e.is("letter " + letter + ", " + what, x.letter(letter, what), due[what]);
        }
    }

    private void letter() {
        e.test(23, "Returns a number of a letter.", "the first and the 30th letter", () -> {
            LetterRouter x = letters(30);
            e.is("the first", x.letter(0, 0), 0);
            e.is("the 30th", x.letter(29, 4), 0);
        });
        e.test(23, WHAT, "all of one that waits behind two tries", () -> {
            LetterRouter x = Scenes.row(16);
            x.addLetter(15, 9, true);
            x.leave(15, 0, 365);
            x.pass(2);
            numbers(x, 0, 15, 9, 1, 0, 0, -1, -1, 2, -1, -1, -1);
        });
        e.test(23, WHAT, "all of those that were delivered on the last day that goes by", () -> {
            LetterRouter x = Scenes.row(16);
            Scenes.pass(x, 364);
            x.addLetter(15, 9, true);
            x.addLetter(0, 1, false);
            x.pass(1);
            numbers(x, 0, 15, 9, 1, 364, 1, 364, -1, 0, 15, 15, 1);
            numbers(x, 1, 0, 1, 0, 364, 1, 364, -1, 0, 0, -1, 0);
        });
        e.test(23, WHAT, "all of those that were returned, for each reason", () -> {
            LetterRouter x = Scenes.row(3);
            x.addHouse(1, 1);
            x.addPerson(3);
            x.addLetter(3, 9, true);
            x.addLetter(0, 2, true);
            x.addLetter(1, 3, true);
            x.addLetter(2, 4, true);
            x.setLimit(0, 1);
            x.leave(1, 0, 365);
            x.hold(2, 365);
            Scenes.pass(x, 31);
            numbers(x, 0, 3, 9, 1, 0, 2, 0, 1, 0, -1, -1, -1);
            numbers(x, 1, 0, 2, 1, 0, 2, 0, 2, 0, -1, -1, -1);
            numbers(x, 2, 1, 3, 1, 0, 2, 2, 3, 3, -1, -1, -1);
            numbers(x, 3, 2, 4, 1, 0, 2, 30, 4, 0, -1, -1, -1);
        });
    }

    private void letterWithoutNumbers() {
        String none = "Returns the number; -1 for 5, 6, 8, 9 and 10 if there is none.";
        e.test(23, none, "of one that waits", () -> {
            LetterRouter x = letters(1);
            numbers(x, 0, 0, 1, 0, 0, 0, -1, -1, 0, -1, -1, -1);
        });
        e.test(23, none, "of one that was delivered unsigned and one that was delivered signed", () -> {
            LetterRouter x = letters(1);
            x.addLetter(0, 1, true);
            x.pass(1);
            numbers(x, 0, 0, 1, 0, 0, 1, 0, -1, 0, 0, -1, 0);
            numbers(x, 1, 0, 1, 1, 0, 1, 0, -1, 0, 0, 0, 1);
        });
        e.test(23, none, "of one that was returned", () -> {
            LetterRouter x = letters(1);
            x.setLimit(0, 0);
            x.pass(1);
            numbers(x, 0, 0, 1, 0, 0, 2, 0, 2, 0, -1, -1, -1);
        });
    }

    private void letterThrows() {
        String argument = "Throws `IllegalArgumentException` if what is not from 0 to 10";
        e.test(23, NO_LETTER, "none is there", () ->
            e.rejects("letter 0", Edges.INDEX, () -> Scenes.row(1), x -> x.letter(0, 0)));
        e.test(23, NO_LETTER, "the first and the last one are there, those next to them are not", () -> {
            e.is("letter 0", LIVELY.get().letter(0, 1), 3);
            e.is("letter 6", LIVELY.get().letter(6, 1), 2);
            for (int letter : Edges.outside(0, 6)) {
                e.rejects("letter " + letter, Edges.INDEX, LIVELY, x -> x.letter(letter, 1));
            }
            for (int letter : Edges.outside(0, 29)) {
                e.rejects("letter " + letter, Edges.INDEX, FULL, x -> x.letter(letter, 1));
            }
        });
        e.test(23, NO_LETTER, "listed ahead of what", () ->
            e.rejects("what 11", Edges.INDEX, LIVELY, x -> x.letter(7, 11)));
        e.test(23, argument, "0 and 10 are possible, -1 and 11 are not", () -> {
            e.is("what 0", LIVELY.get().letter(5, 0), 1);
            e.is("what 10", LIVELY.get().letter(5, 10), 1);
            for (int what : Edges.outside(0, 10)) {
                e.rejects("what " + what, Edges.ARGUMENT, LIVELY, x -> x.letter(5, what));
            }
        });
    }

    /** A letter with the longest note: two tries, signed by person 19 in house 15 on day 364. */
    private static LetterRouter longestNote() {
        LetterRouter x = new LetterRouter();
        for (int i = 1; i <= 16; i++) {
            x.addHouse(0, i);
        }
        for (int i = 0; i < 20; i++) {
            x.addPerson(15);
        }
        x.addWalk(0, 2, 0, 1, 99);
        Scenes.pass(x, 362);
        x.addLetter(19, 9, true);
        x.leave(19, 362, 363);
        x.pass(3);
        return x;
    }

    private void noteLength() {
        e.test(24, "Returns the length of the note of a letter.", "5 is the least", () ->
            e.is("p0w1?", letters(1).noteLength(0), 5));
        e.test(24, "Returns the length.", "18 is the greatest", () ->
            e.is("p19w9r>15/19@364x2", longestNote().noteLength(0), 18));
        e.test(24, "Returns the length.", "a digit more on day 10 and on day 100", () -> {
            int[] days = {9, 10, 99, 100};
            int[] due = {8, 9, 9, 10};
            for (int i = 0; i < 4; i++) {
                LetterRouter x = Scenes.row(1);
                Scenes.pass(x, days[i]);
                x.addLetter(0, 1, false);
                x.pass(1);
                e.is("p0w1>0@" + days[i], x.noteLength(0), due[i]);
            }
        });
        e.test(24, NO_LETTER, "none is there", () ->
            e.rejects("letter 0", Edges.INDEX, () -> Scenes.row(1), x -> x.noteLength(0)));
        e.test(24, NO_LETTER, "the first and the last one are there, those next to them are not", () -> {
            e.is("p0w3r?x1", LIVELY.get().noteLength(0), 8);
            e.is("p1w2?", LIVELY.get().noteLength(6), 5);
            for (int letter : Edges.outside(0, 6)) {
                e.rejects("letter " + letter, Edges.INDEX, LIVELY, x -> x.noteLength(letter));
            }
            for (int letter : Edges.outside(0, 29)) {
                e.rejects("letter " + letter, Edges.INDEX, FULL, x -> x.noteLength(letter));
            }
        });
    }

    private void note() {
        String missing = "Throws `NoSuchElementException` if there is no such index";
        e.test(25, "Returns a character of the note of a letter.", "each of the shortest note", () ->
            e.is("note", note(letters(1), 0), "p0w1?"));
        e.test(25, "Returns the character.", "each of the longest note", () ->
            e.is("note", note(longestNote(), 0), "p19w9r>15/19@364x2"));
        e.test(25, "`index`: the index, from 0", "0 is the first, the length less 1 the last", () -> {
            e.is("index 0", LIVELY.get().note(0, 0), 'p');
            e.is("index 7", LIVELY.get().note(0, 7), '1');
            e.is("index 17", longestNote().note(0, 17), '2');
        });
        e.test(25, NO_LETTER, "none is there", () ->
            e.rejects("letter 0", Edges.INDEX, () -> Scenes.row(1), x -> x.note(0, 0)));
        e.test(25, NO_LETTER, "the first and the last one are there, those next to them are not", () -> {
            e.is("letter 0", LIVELY.get().note(0, 1), '0');
            e.is("letter 6", LIVELY.get().note(6, 1), '1');
            for (int letter : Edges.outside(0, 6)) {
                e.rejects("letter " + letter, Edges.INDEX, LIVELY, x -> x.note(letter, 0));
            }
            for (int letter : Edges.outside(0, 29)) {
                e.rejects("letter " + letter, Edges.INDEX, FULL, x -> x.note(letter, 0));
            }
        });
        e.test(25, NO_LETTER, "listed ahead of the index", () ->
            e.rejects("index -1", Edges.INDEX, LIVELY, x -> x.note(7, -1)));
        e.test(25, missing, "of a note of 8 characters", () -> {
            for (int index : Edges.outside(0, 7)) {
                e.rejects("index " + index, Edges.MISSING, LIVELY, x -> x.note(0, index));
            }
        });
        e.test(25, missing, "of the longest note", () ->
            e.rejects("index 18", Edges.MISSING, LetterEdges::longestNote, x -> x.note(0, 18)));
    }

    private void delivered() {
        String missing = "Throws `NoSuchElementException` if there is none";
        e.test(26, "Returns the letter with a number among all deliveries.", "numbers 0 and 29", () -> {
            LetterRouter x = letters(29);
            x.addLetter(0, 9, false);
            x.pass(1);
            e.is("number 0", x.delivered(0), 29);
            e.is("number 29", x.delivered(29), 28);
        });
        e.test(26, "Returns the letter.", "letters that are returned have no number between", () -> {
            LetterRouter x = Scenes.row(2);
            x.setLimit(0, 0);
            x.addLetter(0, 1, false);
            x.addLetter(1, 1, false);
            x.addLetter(0, 1, false);
            x.addLetter(1, 1, false);
            x.pass(1);
            e.is("number 0", x.delivered(0), 1);
            e.is("number 1", x.delivered(1), 3);
        });
        e.test(26, missing, "none was delivered", () -> {
            e.rejects("number 0", Edges.MISSING, EMPTY, x -> x.delivered(0));
            e.rejects("number 0 of one that waits", Edges.MISSING, () -> letters(1), x -> x.delivered(0));
        });
        e.test(26, missing, "two were delivered", () -> {
            e.is("number 0", LIVELY.get().delivered(0), 4);
            e.is("number 1", LIVELY.get().delivered(1), 5);
            for (int number : Edges.outside(0, 1)) {
                e.rejects("number " + number, Edges.MISSING, LIVELY, x -> x.delivered(number));
            }
        });
        e.test(26, missing, "all 30 were delivered", () -> {
            Supplier<LetterRouter> all = () -> {
                LetterRouter x = letters(30);
                x.pass(1);
                return x;
            };
            e.is("number 29", all.get().delivered(29), 29);
            for (int number : Edges.outside(0, 29)) {
                e.rejects("number " + number, Edges.MISSING, all, x -> x.delivered(number));
            }
        });
    }

    private void daysLeft() {
        String what = "Returns how many days it takes until a letter no longer waits, if nothing else is done.";
        String returns = "Returns the number of days, 1 if today is the last one on which it waits.";
        e.test(27, what, "asking changes nothing", () -> {
            e.onlyAnswers("daysLeft", LIVELY, x -> x.daysLeft(0));
            e.onlyAnswers("daysLeft on hold", LIVELY, x -> x.daysLeft(2));
        });
        e.test(27, what, "as many as go by: one day less, and it waits still", () -> {
            for (int letter : new int[] {0, 2, 6}) {
                LetterRouter x = LIVELY.get();
                int days = x.daysLeft(letter);
                if (days > 1) {
                    x.pass(days - 1);
                }
                e.is("letter " + letter + " waits", x.letter(letter, 4), 0);
                e.is("a day is left", x.daysLeft(letter), 1);
                x.pass(1);
                e.is("letter " + letter + " waits no longer", x.letter(letter, 4) > 0, true);
            }
        });
        e.test(27, what, "31 at most: a hold until the 30th day behind", () -> {
            LetterRouter x = letters(1);
            x.hold(0, 365);
            e.is("on hold", x.daysLeft(0), 31);
            x.hold(0, 29);
            e.is("held to day 29", x.daysLeft(0), 31);
            x.hold(0, 28);
            e.is("held to day 28", x.daysLeft(0), 30);
        });
        e.test(27, returns, "1: delivered, and returned for each reason today", () -> {
            LetterRouter x = letters(1);
            e.is("delivered", x.daysLeft(0), 1);
            x.setLimit(0, 0);
            e.is("reason 2", x.daysLeft(0), 1);
            LetterRouter y = LIVELY.get();
            y.addLetter(3, 1, false);
            y.hold(3, -1);
            e.is("reason 1", y.daysLeft(7), 1);
            y.pass(1);
            e.is("reason 3", y.daysLeft(0), 1);
            y.hold(2, 365);
            y.pass(28);
            e.is("reason 4", y.daysLeft(2), 1);
        });
        e.test(27, returns, "2 and 3: an absence ends, or the third try fails", () -> {
            LetterRouter x = Scenes.row(1);
            x.addLetter(0, 1, true);
            x.leave(0, 0, 0);
            e.is("one failed try", x.daysLeft(0), 2);
            x.leave(0, 1, 1);
            e.is("two failed tries", x.daysLeft(0), 3);
            x.leave(0, 2, 365);
            e.is("three failed tries", x.daysLeft(0), 3);
        });
    }

    private void daysLeftBehindHolds() {
        String what = "Returns how many days it takes until a letter no longer waits, if nothing else is done.";
        e.test(27, what, "days on hold are no tries: three tries behind three days", () -> {
            LetterRouter x = Scenes.row(1);
            x.addLetter(0, 1, true);
            x.hold(0, 2);
            x.leave(0, 0, 365);
            e.is("days", x.daysLeft(0), 6);
            x.pass(5);
            e.is("waits", x.letter(0, 7), 2);
            x.pass(1);
            e.is("reason", x.letter(0, 6), 3);
        });
        e.test(27, what, "tries that were made count: two, then a hold to the day before the last", () -> {
            LetterRouter x = Scenes.row(1);
            x.addLetter(0, 1, true);
            x.leave(0, 0, 365);
            x.pass(2);
            x.hold(0, 29);
            e.is("the third try", x.daysLeft(0), 29);
            x.hold(0, 30);
            e.is("reason 4", x.daysLeft(0), 29);
            x.hold(0, 28);
            e.is("a day earlier", x.daysLeft(0), 28);
        });
    }

    private void daysLeftThrows() {
        String state = "Throws `IllegalStateException` if it does not wait";
        String missing = "Throws `NoSuchElementException` if it still waits when day 365 is today";
        e.test(27, NO_LETTER, "none is there", () ->
            e.rejects("letter 0", Edges.INDEX, () -> Scenes.row(1), x -> x.daysLeft(0)));
        e.test(27, NO_LETTER, "the first and the last one are there, those next to them are not", () -> {
            e.is("letter 0", LIVELY.get().daysLeft(0), 2);
            e.is("letter 6", LIVELY.get().daysLeft(6), 1);
            for (int letter : Edges.outside(0, 6)) {
                e.rejects("letter " + letter, Edges.INDEX, LIVELY, x -> x.daysLeft(letter));
            }
            for (int letter : Edges.outside(0, 29)) {
                e.rejects("letter " + letter, Edges.INDEX, FULL, x -> x.daysLeft(letter));
            }
        });
        e.test(27, state, "delivered and returned", () -> {
            e.rejects("delivered", Edges.STATE, LIVELY, x -> x.daysLeft(4));
            e.rejects("returned", Edges.STATE, LIVELY, x -> x.daysLeft(1));
        });
        e.test(27, state, "listed ahead of day 365", () -> {
            e.rejects("delivered", Edges.STATE, Scenes.LAST_DAY, x -> x.daysLeft(4));
            e.rejects("returned", Edges.STATE, Scenes.LAST_DAY, x -> x.daysLeft(1));
        });
        e.test(27, missing, "on hold: one that came on day 334 no longer waits, one of day 335 does", () -> {
            for (int day : new int[] {334, 335}) {
                Supplier<LetterRouter> held = () -> {
                    LetterRouter x = Scenes.row(1);
                    Scenes.pass(x, day);
                    x.hold(0, 365);
                    x.addLetter(0, 1, false);
                    return x;
                };
                if (day == 334) {
                    e.is("day 334", held.get().daysLeft(0), 31);
                } else {
                    e.rejects("day 335", Edges.MISSING, held, x -> x.daysLeft(0));
                }
            }
        });
        e.test(27, missing, "held to day 363 it is delivered on day 364, held to day 364 it is not", () -> {
            Supplier<LetterRouter> late = () -> {
                LetterRouter x = Scenes.row(1);
                Scenes.pass(x, 360);
                x.addLetter(0, 1, false);
                x.hold(0, 363);
                return x;
            };
            e.is("to day 363", late.get().daysLeft(0), 5);
            Supplier<LetterRouter> later = () -> {
                LetterRouter x = late.get();
                x.hold(0, 364);
                return x;
            };
            e.rejects("to day 364", Edges.MISSING, later, x -> x.daysLeft(0));
        });
        e.test(27, missing, "the third try fails on day 364, or only two do", () -> {
            for (int day : new int[] {362, 363}) {
                Supplier<LetterRouter> away = () -> {
                    LetterRouter x = Scenes.row(1);
                    Scenes.pass(x, day);
                    x.addLetter(0, 1, true);
                    x.leave(0, 0, 365);
                    return x;
                };
                if (day == 362) {
                    e.is("three", away.get().daysLeft(0), 3);
                } else {
                    e.rejects("two", Edges.MISSING, away, x -> x.daysLeft(0));
                }
            }
        });
        e.test(27, missing, "made on day 364, or on day 365", () -> {
            LetterRouter x = Scenes.row(1);
            Scenes.pass(x, 364);
            x.addLetter(0, 1, false);
            e.is("on day 364", x.daysLeft(0), 1);
            e.rejects("on day 365", Edges.MISSING, Scenes.LAST_DAY, y -> y.daysLeft(7));
        });
    }
}
