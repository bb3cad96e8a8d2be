import java.util.function.Supplier;

/** The boundaries that the terms name: letters, days that go by, order, notes, texts, reasons, changes, exceptions. */
final class DeliveryEdges {
    static final String ORDER =
        "The letters that are delivered on a day are delivered in the order of their walks, of the same walk in "
        + "that of its stops, and at the same stop in that of their weights, the heaviest first, and of the same "
        + "weight in that of their numbers.";
    static final String NOTE =
        "The note of a letter is a text: \"p\" and its person, \"w\" and its weight, and \"r\" if it "
        + "is registered; then \"?\" if it waits, \">\" and the house if it was delivered, with \"/\" and "
        + "the person who signed it if it is registered, or \"<\" and the reason if it was returned; then "
        + "\"@\" and the day on which that was, unless it waits; and at last \"x\" and its failed tries, if "
        + "there were any.";
    private static final Supplier<LetterRouter> LIVELY = Scenes.LIVELY;
    private static final Supplier<LetterRouter> FULL = Scenes.FULL;
    private static final int TERMS = Edges.TERMS;

    private final Edges e;

    private DeliveryEdges(Edges e) {
        this.e = e;
    }

    static void addTo(Edges e) {
        DeliveryEdges all = new DeliveryEdges(e);
        all.letters();
        all.dayGoesBy();
        all.otherwise();
        all.tries();
        all.oldLetters();
        all.order();
        all.orderOfStops();
        all.notes();
        all.texts();
        all.digits();
        all.faults();
        all.reasons();
        all.changes();
        all.changesThatChangeNothing();
        all.keptChanges();
        all.whatStays();
        all.exceptions();
    }

    private static String note(LetterRouter x, int letter) {
        return Picture.noteOf(x, letter);
    }

    private static LetterRouter lettersTo(int persons, int count) {
        LetterRouter x = Scenes.row(persons);
        for (int i = 0; i < count; i++) {
            x.addLetter(i % persons, 1, false);
        }
        return x;
    }

    private void letters() {
        String most = "At most 30 letters are ever made, numbered from 0.";
        String letter = "A letter is to a person, has a weight from 1 to 9, and is registered or not; it is waiting, "
            + "delivered or returned.";
        String came = "It came on a day, which is today when it is made.";
        e.test(TERMS, most, "30 are made, numbered 0 to 29, a 31st is not, one by one or in a text", () -> {
            LetterRouter x = Scenes.row(1);
            for (int i = 0; i < 30; i++) {
                e.is("letter", x.addLetter(0, 1, false), i);
            }
            e.fails("31st", Edges.REFUSED, x, y -> y.addLetter(0, 1, false));
            Scenes.type(x, "p0");
            e.fails("31st in a text", Edges.REFUSED, x, LetterRouter::arrive);
            e.is("letters", x.account(4), 30);
        });
        e.test(TERMS, most, "ever: those that were delivered or returned count", () -> {
            LetterRouter x = lettersTo(2, 30);
            x.setLimit(1, 0);
            x.pass(1);
            e.is("none waits", x.account(5), 0);
            e.fails("31st", Edges.REFUSED, x, y -> y.addLetter(0, 1, false));
        });
        e.test(TERMS, letter, "weights 1 and 9, and each state", () -> {
            LetterRouter x = Scenes.row(3);
            x.addLetter(0, 1, true);
            x.addLetter(1, 9, false);
            x.addLetter(2, 9, true);
            for (int i = 0; i < 3; i++) {
                e.is("waiting", x.letter(i, 4), 0);
            }
            x.hold(0, 5);
            x.setLimit(1, 8);
            x.pass(1);
            e.is("still waiting", x.letter(0, 4), 0);
            e.is("returned", x.letter(1, 4), 2);
            e.is("delivered", x.letter(2, 4), 1);
            e.is("lightest", x.letter(0, 1), 1);
            e.is("heaviest", x.letter(2, 1), 9);
            e.is("registered", x.letter(2, 2), 1);
            e.is("not registered", x.letter(1, 2), 0);
        });
        e.test(TERMS, came, "on day 0, on day 365, and in a text", () -> {
            LetterRouter x = Scenes.row(1);
            x.addLetter(0, 1, false);
            Scenes.pass(x, 365);
            x.addLetter(0, 1, false);
            Scenes.type(x, "p0");
            x.arrive();
            e.is("on day 0", x.letter(0, 3), 0);
            e.is("on day 365", x.letter(1, 3), 365);
            e.is("in a text", x.letter(2, 3), 365);
        });
    }

    private void dayGoesBy() {
        String looked = "When a day goes by, the letters that wait are looked at.";
        String left = "A letter is left if its person has a hold on this day.";
        String increases = "Then today increases by 1.";
        e.test(TERMS, looked, "those that do not wait stay as they are", () -> {
            LetterRouter x = LIVELY.get();
            String delivered = note(x, 5);
            String returned = note(x, 1);
            x.pass(60);
            e.is("delivered", note(x, 5), delivered);
            e.is("returned", note(x, 1), returned);
            e.is("numbers go on", x.letter(6, 10), 2);
        });
        e.test(TERMS, looked, "the first and the 30th letter", () -> {
            LetterRouter x = lettersTo(1, 30);
            e.is("all", x.pass(1), 30);
            e.is("the first", x.letter(0, 4), 1);
            e.is("the 30th", x.letter(29, 4), 1);
        });
        e.test(TERMS, looked, "none waits", () -> e.is("delivered", Scenes.row(1).pass(60), 0));
        e.test(TERMS, left, "ahead of reasons 1 and 2 and of a try", () -> {
            LetterRouter x = Scenes.row(3);
            x.addHouse(1, 1);
            x.addPerson(3);
            x.addLetter(3, 1, false);
            x.addLetter(1, 9, false);
            x.addLetter(2, 1, true);
            x.setLimit(1, 8);
            x.leave(2, 0, 365);
            for (int person = 1; person <= 3; person++) {
                x.hold(person, 0);
            }
            x.pass(1);
            for (int i = 0; i < 3; i++) {
                e.is("letter " + i + " waits", x.letter(i, 4), 0);
                e.is("letter " + i + " has no try", x.letter(i, 7), 0);
            }
            x.pass(1);
            e.is("reason 1", x.letter(0, 6), 1);
            e.is("reason 2", x.letter(1, 6), 2);
            e.is("a try", x.letter(2, 7), 1);
        });
        e.test(TERMS, left, "the hold of its person, not of those at the end of its way", () -> {
            LetterRouter x = Scenes.row(2);
            x.redirectPerson(0, 1, 0, 0);
            x.hold(1, 365);
            x.addLetter(0, 1, false);
            e.is("delivered", x.pass(1), 1);
        });
        e.test(TERMS, increases, "by 1 in one day, by 60 in 60", () -> {
            LetterRouter x = new LetterRouter();
            x.pass(1);
            e.is("1", x.today(), 1);
            x.pass(60);
            e.is("61", x.today(), 61);
        });
        e.test(TERMS, increases, "behind the deliveries, which are those of the day that goes by", () -> {
            LetterRouter x = Scenes.row(1);
            Scenes.pass(x, 364);
            x.addLetter(0, 1, false);
            x.pass(1);
            e.is("delivered on", x.letter(0, 5), 364);
            e.is("today", x.today(), 365);
        });
    }

    private void otherwise() {
        String otherwise = "Otherwise it is returned for the reason 1 if no walk serves the end of its way; returned "
            + "for the reason 2 if its person refuses letters of its weight, which are those above the limit of "
            + "the person; delivered if it is not registered, or if it can be signed; and otherwise it has a "
            + "failed try more, and is returned for the reason 3 at its third one.";
        e.test(TERMS, otherwise, "reason 1: the walk ends just ahead of the house, or reaches it", () -> {
            for (int last : new int[] {49, 50}) {
                LetterRouter x = new LetterRouter();
                x.addHouse(0, 50);
                x.addPerson(0);
                x.addWalk(0, 2, 0, 1, last);
                x.addLetter(0, 1, false);
                x.pass(1);
                e.is("reason, walk to " + last, x.letter(0, 6), last == 49 ? 1 : -1);
            }
        });
        e.test(TERMS, otherwise, "reason 1: of the end of the way, not of its begin", () -> {
            LetterRouter x = Scenes.row(2);
            x.addHouse(1, 1);
            x.addPerson(2);
            x.redirectHouse(0, 2, 0, 0);
            x.redirectHouse(2, 1, 1, 1);
            x.addLetter(0, 1, false);
            x.pass(1);
            x.addLetter(2, 1, false);
            x.pass(1);
            e.is("the end is not served", x.letter(0, 6), 1);
            e.is("only the begin is not", x.letter(1, 8), 1);
        });
        e.test(TERMS, otherwise, "reason 1 ahead of reason 2, reason 2 ahead of a try", () -> {
            LetterRouter x = Scenes.row(1);
            x.addHouse(1, 1);
            x.addPerson(1);
            for (int person = 0; person < 2; person++) {
                x.setLimit(person, 0);
                x.leave(person, 0, 365);
                x.addLetter(person, 1, true);
            }
            x.pass(1);
            e.is("reason 2", x.letter(0, 6), 2);
            e.is("no try", x.letter(0, 7), 0);
            e.is("reason 1", x.letter(1, 6), 1);
        });
        e.test(TERMS, otherwise, "reason 2: at the limit it is delivered, above it is returned, for each limit", () -> {
            for (int limit = 0; limit <= 9; limit++) {
                LetterRouter x = Scenes.row(1);
                x.setLimit(0, limit);
                for (int weight = 1; weight <= 9; weight++) {
                    x.addLetter(0, weight, false);
                }
                e.is("delivered with limit " + limit, x.pass(1), limit);
                e.is("returned with limit " + limit, x.returned(2), 9 - limit);
            }
        });
        e.test(TERMS, otherwise, "reason 2: the limit of its person, not of who signs", () -> {
            LetterRouter x = Scenes.row(1);
            x.addPerson(0);
            x.allow(0, 1, true);
            x.leave(0, 0, 0);
            x.setLimit(1, 0);
            x.addLetter(0, 9, true);
            e.is("delivered", x.pass(1), 1);
            e.is("signed by", x.letter(0, 9), 1);
        });
        e.test(TERMS, otherwise, "not registered: nobody needs to be there", () -> {
            LetterRouter x = Scenes.row(1);
            x.leave(0, 0, 365);
            x.addLetter(0, 1, false);
            e.is("delivered", x.pass(1), 1);
            e.is("no try", x.letter(0, 7), 0);
            e.is("signed by nobody", x.letter(0, 9), -1);
        });
    }

    private void tries() {
        String third = "A letter that is returned for reason 3 had its third failed try.";
        e.test(TERMS, third, "0 tries, 1, 2 and 3", () -> {
            LetterRouter x = Scenes.row(1);
            x.leave(0, 0, 365);
            x.addLetter(0, 1, true);
            for (int tries = 0; tries < 3; tries++) {
                e.is("tries", x.letter(0, 7), tries);
                e.is("waits", x.letter(0, 4), 0);
                x.pass(1);
            }
            e.is("tries", x.letter(0, 7), 3);
            e.is("reason", x.letter(0, 6), 3);
            e.is("day", x.letter(0, 5), 2);
            x.pass(1);
            e.is("no fourth one", x.letter(0, 7), 3);
        });
        e.test(TERMS, third, "behind two tries it can be delivered", () -> {
            LetterRouter x = Scenes.row(1);
            x.leave(0, 0, 1);
            x.addLetter(0, 1, true);
            e.is("delivered on the third day", x.pass(3), 1);
            e.is("tries", x.letter(0, 7), 2);
        });
        e.test(TERMS, third, "days on hold between are no tries", () -> {
            LetterRouter x = Scenes.row(1);
            x.leave(0, 0, 365);
            x.addLetter(0, 1, true);
            x.pass(2);
            x.hold(0, 20);
            x.pass(19);
            e.is("tries", x.letter(0, 7), 2);
            x.pass(1);
            e.is("reason", x.letter(0, 6), 3);
            e.is("day", x.letter(0, 5), 21);
        });
    }

    private void oldLetters() {
        String old = "Then each letter that still waits is returned for the reason 4 if it came at least 30 days "
            + "before.";
        String likewise = "A letter on hold is returned for the reason 4 likewise; the days since it came are "
            + "counted ahead of the increase of today.";
        e.test(TERMS, old, "29 days before it waits, 30 days before it is returned", () -> {
            LetterRouter x = Scenes.row(1);
            x.hold(0, 365);
            x.addLetter(0, 1, false);
            x.pass(30);
            e.is("day 29 has gone by", x.letter(0, 4), 0);
            x.pass(1);
            e.is("day 30 has gone by", x.letter(0, 6), 4);
        });
        e.test(TERMS, old, "it no longer waits if it is delivered or returned on that day", () -> {
            LetterRouter x = Scenes.row(3);
            for (int person = 0; person < 3; person++) {
                x.hold(person, 29);
                x.addLetter(person, 9, true);
            }
            x.setLimit(1, 8);
            x.pass(31);
            e.is("delivered", note(x, 0), "p0w9r>0/0@30");
            e.is("reason 2", note(x, 1), "p1w9r<2@30");
            e.is("delivered, too", note(x, 2), "p2w9r>2/2@30");
        });
        e.test(TERMS, old, "reason 3 if the third try fails on that day, reason 4 if the second does", () -> {
            for (int tries = 1; tries <= 2; tries++) {
                LetterRouter x = Scenes.row(1);
                x.leave(0, 0, 365);
                x.addLetter(0, 1, true);
                x.pass(tries);
                x.hold(0, 29);
                x.pass(31 - tries);
                e.is("reason behind " + tries, x.letter(0, 6), tries == 2 ? 3 : 4);
                e.is("tries behind " + tries, x.letter(0, 7), tries + 1);
                e.is("day behind " + tries, x.letter(0, 5), 30);
            }
        });
        e.test(TERMS, old, "letters that came later wait on", () -> {
            LetterRouter x = Scenes.row(1);
            x.hold(0, 365);
            x.addLetter(0, 1, false);
            x.pass(1);
            x.addLetter(0, 1, false);
            x.pass(30);
            e.is("the first", x.letter(0, 6), 4);
            e.is("the second", x.letter(1, 4), 0);
            x.pass(1);
            e.is("the second a day later", x.letter(1, 5), 31);
        });
        e.test(TERMS, likewise, "on day 30, which is that on which it was returned", () -> {
            LetterRouter x = Scenes.row(1);
            x.hold(0, 30);
            x.addLetter(0, 1, false);
            x.pass(31);
            e.is("day", x.letter(0, 5), 30);
            e.is("today", x.today(), 31);
            e.is("returned", x.returned(4), 1);
        });
        e.test(TERMS, likewise, "one that came on day 334 is returned on day 364", () -> {
            LetterRouter x = Scenes.row(1);
            x.hold(0, 365);
            Scenes.pass(x, 334);
            x.addLetter(0, 1, false);
            x.pass(1);
            x.addLetter(0, 1, false);
            x.pass(30);
            e.is("today", x.today(), 365);
            e.is("returned on", x.letter(0, 5), 364);
            e.is("that of day 335 waits", x.letter(1, 4), 0);
        });
    }

    private void order() {
        String next = "Each gets the next number of all deliveries ever, from 0.";
        e.test(TERMS, ORDER, "walk 9 with its first stop behind walk 0 with its last stop", () -> {
            LetterRouter x = new LetterRouter();
            x.addHouse(1, 1);
            for (int i = 1; i <= 15; i++) {
                x.addHouse(0, i);
            }
            x.addWalk(0, 2, 0, 1, 99);
            for (int i = 1; i < 9; i++) {
                x.addWalk(2, 2, 0, 1, 99);
            }
            x.addWalk(1, 2, 0, 1, 99);
            x.addPerson(0);
            x.addPerson(15);
            x.addLetter(0, 9, false);
            x.addLetter(1, 1, false);
            x.pass(1);
            e.is("first", x.delivered(0), 1);
            e.is("second", x.delivered(1), 0);
        });
        e.test(TERMS, ORDER, "at one stop: weights 9 to 1, the same ones by their numbers, up to 30", () -> {
            LetterRouter x = Scenes.row(1);
            for (int i = 0; i < 30; i++) {
                x.addLetter(0, 1 + i % 9, i % 2 == 0);
            }
            x.pass(1);
            int number = 0;
            for (int weight = 9; weight >= 1; weight--) {
                for (int letter = weight - 1; letter < 30; letter += 9) {
                    e.is("number " + number, x.delivered(number), letter);
                    e.is("of letter " + letter, x.letter(letter, 10), number);
                    number++;
                }
            }
        });
        e.test(TERMS, ORDER, "at one stop: letters of several persons, whatever their numbers", () -> {
            LetterRouter x = Scenes.row(2);
            x.addPerson(0);
            x.redirectPerson(1, 0, 0, 365);
            x.addLetter(2, 3, false);
            x.addLetter(1, 3, false);
            x.addLetter(0, 4, false);
            x.pass(1);
            e.is("first", x.delivered(0), 2);
            e.is("second", x.delivered(1), 0);
            e.is("third", x.delivered(2), 1);
        });
        e.test(TERMS, next, "from 0 to 29, over several days", () -> {
            LetterRouter x = Scenes.row(1);
            for (int i = 0; i < 30; i++) {
                x.addLetter(0, 1, false);
                x.pass(1);
                e.is("number", x.letter(i, 10), i);
                e.is("letter", x.delivered(i), i);
            }
        });
        e.test(TERMS, next, "a number that was undone is given again", () -> {
            LetterRouter x = lettersTo(2, 2);
            x.pass(1);
            x.undo();
            x.hold(0, 0);
            x.pass(2);
            e.is("number 0", x.delivered(0), 1);
            e.is("number 1", x.delivered(1), 0);
        });
    }

    private void orderOfStops() {
        e.test(TERMS, ORDER, "16 stops of a walk, ascending and descending, the lightest at the first", () -> {
            for (int direction : new int[] {0, 1}) {
                LetterRouter x = new LetterRouter();
                for (int i = 0; i < 16; i++) {
                    x.addHouse(0, i + 1);
                    x.addPerson(i);
                }
                x.addWalk(0, 2, direction, 1, 99);
                for (int i = 0; i < 16; i++) {
                    x.addLetter((i * 5 + 3) % 16, 1 + i % 9, false);
                }
                x.pass(1);
                for (int i = 0; i < 16; i++) {
                    int due = direction == 0 ? i : 15 - i;
                    e.is("stop " + i, x.letter(x.delivered(i), 8), due);
                }
            }
        });
        e.test(TERMS, ORDER, "where the way ends on that day, not where the person lives", () -> {
            LetterRouter x = Scenes.row(3);
            x.redirectHouse(0, 2, 0, 0);
            x.addLetter(0, 9, false);
            x.addLetter(1, 1, false);
            x.pass(1);
            e.is("first", x.delivered(0), 1);
            e.is("second", x.delivered(1), 0);
        });
    }

    private void notes() {
        String zeros = "Numbers are written without zeros in front.";
        String stand = "Failed tries stand in the notes of letters that do not wait, too.";
        e.test(TERMS, NOTE, "one that waits: without and with a try", () -> {
            LetterRouter x = Scenes.row(1);
            x.leave(0, 0, 365);
            x.addLetter(0, 9, true);
            e.is("without", note(x, 0), "p0w9r?");
            x.pass(1);
            e.is("with one", note(x, 0), "p0w9r?x1");
            x.pass(1);
            e.is("with two", note(x, 0), "p0w9r?x2");
        });
        e.test(TERMS, NOTE, "one that was delivered: registered or not, without and with a try", () -> {
            LetterRouter x = Scenes.row(2);
            x.addLetter(0, 1, false);
            x.addLetter(0, 1, true);
            x.addLetter(1, 2, true);
            x.leave(1, 0, 0);
            x.pass(2);
            e.is("not registered", note(x, 0), "p0w1>0@0");
            e.is("registered", note(x, 1), "p0w1r>0/0@0");
            e.is("registered with a try", note(x, 2), "p1w2r>1/1@1x1");
        });
        e.test(TERMS, NOTE, "one that was returned: for each reason, registered or not", () -> {
            LetterRouter x = Scenes.row(2);
            x.addHouse(1, 1);
            x.addPerson(2);
            x.addLetter(2, 1, false);
            x.addLetter(0, 9, true);
            x.addLetter(0, 8, true);
            x.addLetter(1, 1, false);
            x.setLimit(0, 8);
            x.leave(0, 0, 365);
            x.hold(1, 365);
            x.pass(31);
            e.is("reason 1", note(x, 0), "p2w1<1@0");
            e.is("reason 2", note(x, 1), "p0w9r<2@0");
            e.is("reason 3", note(x, 2), "p0w8r<3@2x3");
            e.is("reason 4", note(x, 3), "p1w1<4@30");
        });
        e.test(TERMS, zeros, "0, 9, 10, 19 of persons and houses, 0, 9, 10, 99, 100, 364 of days", () -> {
            int[] days = {0, 9, 10, 99, 100, 364};
            for (int day : days) {
                LetterRouter x = Scenes.row(16);
                for (int i = 16; i < 20; i++) {
                    x.addPerson(i - 7);
                }
                Scenes.pass(x, day);
                for (int person : new int[] {0, 9, 10, 19}) {
                    x.addLetter(person, 1, true);
                }
                x.pass(1);
                e.is("0 on day " + day, note(x, 0), "p0w1r>0/0@" + day);
                e.is("9 on day " + day, note(x, 1), "p9w1r>9/9@" + day);
                e.is("10 on day " + day, note(x, 2), "p10w1r>10/10@" + day);
                e.is("19 on day " + day, note(x, 3), "p19w1r>12/19@" + day);
            }
        });
        e.test(TERMS, stand, "delivered behind one and two, returned behind three, and for reason 4", () -> {
            LetterRouter x = Scenes.row(4);
            for (int person = 0; person < 4; person++) {
                x.addLetter(person, 1, true);
            }
            x.leave(0, 0, 0);
            x.leave(1, 0, 1);
            x.leave(2, 0, 2);
            x.leave(3, 0, 365);
            x.pass(1);
            x.hold(3, 365);
            x.pass(30);
            e.is("one", note(x, 0), "p0w1r>0/0@1x1");
            e.is("two", note(x, 1), "p1w1r>1/1@2x2");
            e.is("three", note(x, 2), "p2w1r<3@2x3");
            e.is("reason 4", note(x, 3), "p3w1r<4@30x1");
        });
        e.test(TERMS, stand, "and none stands there behind reasons 1 and 2 without a try", () -> {
            e.is("reason 2", note(LIVELY.get(), 1), "p1w5<2@0");
            e.is("reason 1", note(LIVELY.get(), 3), "p3w1<1@0");
        });
    }

    /** Reads a text in an office with 20 persons: the notes of its letters, or the position of its fault. */
    private static String read(String text) {
        LetterRouter x = Scenes.row(16);
        for (int i = 16; i < 20; i++) {
            x.addPerson(0);
        }
        Scenes.type(x, text);
        try {
            x.arrive();
        } catch (IllegalArgumentException e) {
            return "fault at " + x.faultPosition();
        }
        StringBuilder notes = new StringBuilder();
        for (int i = 0; i < x.account(4); i++) {
            notes.append(note(x, i));
        }
        return notes.toString();
    }

    private void texts() {
        String text = "A text of arrivals consists of one or more letters with \",\" between them: \"p\" and a "
            + "person, possibly \"w\" and a weight, which is 1 otherwise, and possibly \"r\" if it is registered.";
        e.test(TERMS, text, "one letter with and without each part", () -> {
            e.is("p0", read("p0"), "p0w1?");
            e.is("p0r", read("p0r"), "p0w1r?");
            e.is("p0w1", read("p0w1"), "p0w1?");
            e.is("p19w9r", read("p19w9r"), "p19w9r?");
        });
        e.test(TERMS, text, "no letter, and no letter beside a comma", () -> {
            e.is("nothing", read(""), "fault at 0");
            e.is("a comma", read(","), "fault at 0");
            e.is("a comma ahead", read(",p0"), "fault at 0");
            e.is("a comma behind", read("p0,"), "fault at 3");
            e.is("two commas", read("p0,,p0"), "fault at 3");
        });
        e.test(TERMS, text, "letters without a comma between them, or with another sign", () -> {
            e.is("none", read("p0p1"), "fault at 2");
            e.is("none behind r", read("p0rp1"), "fault at 3");
            e.is("none behind a weight", read("p0w3p1"), "fault at 4");
            e.is("a blank", read("p0 p1"), "fault at 2");
            e.is("a blank behind the comma", read("p0, p1"), "fault at 3");
            e.is("a semicolon", read("p0;p1"), "fault at 2");
        });
        e.test(TERMS, text, "parts in another order, or twice", () -> {
            e.is("r ahead of w", read("p0rw1"), "fault at 3");
            e.is("r ahead of the person", read("pr0"), "fault at 1");
            e.is("w ahead of p", read("w1p0"), "fault at 0");
            e.is("two weights", read("p0w1w1"), "fault at 4");
            e.is("r twice", read("p0rr"), "fault at 3");
            e.is("two p", read("pp0"), "fault at 1");
        });
        e.test(TERMS, text, "large letters are none of its signs", () -> {
            e.is("P", read("P0"), "fault at 0");
            e.is("W", read("p0W1"), "fault at 2");
            e.is("R", read("p0R"), "fault at 2");
        });
        e.test(TERMS, text, "13 letters in 40 characters, in their order", () -> {
            StringBuilder due = new StringBuilder();
            for (int i = 0; i < 10; i++) {
                due.append("p").append(i).append("w1?");
            }
            due.append("p1w1?p2w1?p3w1r?");
            e.is("13", read("p0,p1,p2,p3,p4,p5,p6,p7,p8,p9,p1,p2,p3r"), due.toString());
        });
    }

    private void digits() {
        String digits = "A person is 1 or 2 digits that do not begin with 0, except for 0 itself; a weight is one "
            + "digit from 1 to 9.";
        String behind = "A digit behind the person 0, and a weight of 0, are faults.";
        e.test(TERMS, digits, "persons 0, 1, 9, 10, 19, and three digits", () -> {
            for (int person : new int[] {0, 1, 9, 10, 19}) {
                e.is("person " + person, read("p" + person), "p" + person + "w1?");
            }
            e.is("100", read("p100"), "fault at 3");
            e.is("190", read("p190w1"), "fault at 3");
            e.is("999", read("p999"), "fault at 3");
        });
        e.test(TERMS, digits, "persons 20 and 99 are written well, but are not there", () -> {
            for (String text : new String[] {"p20", "p99"}) {
                LetterRouter x = Scenes.row(16);
                Scenes.type(x, text);
                e.fails(text, Edges.REFUSED, x, LetterRouter::arrive);
                e.is("reason of " + text, x.refusal(), 3);
            }
        });
        e.test(TERMS, digits, "no digit at all, and the signs next to digits", () -> {
            e.is("no person", read("pw1"), "fault at 1");
            e.is("/ for a person", read("p/"), "fault at 1");
            e.is(": for a person", read("p:"), "fault at 1");
            e.is("/ for a second digit", read("p1/"), "fault at 2");
            e.is(": for a second digit", read("p1:"), "fault at 2");
            e.is("a sign", read("p-1"), "fault at 1");
        });
        e.test(TERMS, digits, "weights 1 and 9, two digits, and none", () -> {
            for (int weight = 1; weight <= 9; weight++) {
                e.is("weight " + weight, read("p0w" + weight), "p0w" + weight + "?");
            }
            e.is("weight 10", read("p0w10"), "fault at 4");
            e.is("weight 99", read("p0w99"), "fault at 4");
            e.is("no weight", read("p0w,p0"), "fault at 3");
            e.is("/ for a weight", read("p0w/"), "fault at 3");
            e.is(": for a weight", read("p0w:"), "fault at 3");
        });
        e.test(TERMS, behind, "00, 01 and 09, alone and in a later letter", () -> {
            e.is("00", read("p00"), "fault at 2");
            e.is("01", read("p01"), "fault at 2");
            e.is("09", read("p09w1"), "fault at 2");
            e.is("later", read("p10,p01"), "fault at 6");
        });
        e.test(TERMS, behind, "a digit 0 behind another one is none", () ->
            e.is("10", read("p10"), "p10w1?"));
        e.test(TERMS, behind, "weights 0 and 01", () -> {
            e.is("0", read("p0w0"), "fault at 3");
            e.is("01", read("p0w01"), "fault at 3");
            e.is("0 of a registered one", read("p0w0r"), "fault at 3");
        });
    }

    private void faults() {
        String position = "The fault position of a text is the index of its first character that cannot continue "
            + "such a text, or the length of the text if it ends too early.";
        String refused = "The fault position behind a text that is refused is -1.";
        e.test(TERMS, position, "0: the first character, and nothing", () -> {
            e.is("first", read("x"), "fault at 0");
            e.is("nothing", read(""), "fault at 0");
        });
        e.test(TERMS, position, "it ends too early behind each part that needs another one", () -> {
            e.is("p", read("p"), "fault at 1");
            e.is("w", read("p0w"), "fault at 3");
            e.is("a comma", read("p10w1r,"), "fault at 7");
            e.is("p of a later letter", read("p0,p"), "fault at 4");
            e.is("w of a later letter", read("p0,p1w"), "fault at 6");
        });
        e.test(TERMS, position, "the first of several faults", () -> {
            e.is("two", read("p0x,y"), "fault at 2");
            e.is("a digit ahead of another fault", read("p00w0"), "fault at 2");
        });
        e.test(TERMS, position, "39 and 40 in a full buffer", () -> {
            e.is("39", read("p0,p0,p0,p0,p0,p0,p0,p0,p0,p0,p0,p0,p0rr"), "fault at 39");
            e.is("40", read("p0,p0,p0,p0,p0,p0,p0,p0,p0,p0,p0,p0,p0r,"), "fault at 40");
            e.is("40 behind w", read("p0,p0,p0,p0,p0,p0,p0,p0,p0,p0,p0,p10,p0w"), "fault at 40");
            e.is("40 behind p", read("p0,p0,p0,p0,p0,p0,p0,p0,p0,p0,p10,p10r,p"), "fault at 40");
        });
        e.test(TERMS, refused, "for reason 3 and for reason 1, behind a fault before", () -> {
            e.failsToArrive("p4", Edges.REFUSED, -1, "3", Scenes.LIVELY_READ);
            e.failsToArrive("p0", Edges.REFUSED, -1, "1", Scenes.FULL_READ);
        });
        e.test(TERMS, refused, "other calls that are refused leave it", () -> {
            LetterRouter x = FULL.get();
            e.fails("letter", Edges.REFUSED, x, y -> y.addLetter(0, 1, false));
            e.is("fault", x.faultPosition(), 3);
        });
    }

    private void reasons() {
        String reasons = "Something is refused for the first of these reasons that applies: 1, 12 redirects are "
            + "kept, or 30 letters were made; 2, redirects would lead round; 3, there is no such person in a "
            + "text.";
        String one = "The letters of a text are looked at one by one: of each, reason 1 ahead of reason 3.";
        e.test(TERMS, reasons, "11 redirects: reason 2, 12 redirects: reason 1", () -> {
            LetterRouter x = Scenes.row(1);
            for (int i = 0; i < 11; i++) {
                x.redirectPerson(0, 0, 0, 0);
            }
            e.fails("with 11", Edges.REFUSED, x, y -> y.redirectHouse(0, 0, 0, 0));
            e.is("with 11", x.refusal(), 2);
            x.redirectPerson(0, 0, 0, 0);
            e.fails("with 12", Edges.REFUSED, x, y -> y.redirectHouse(0, 0, 0, 0));
            e.is("with 12", x.refusal(), 1);
        });
        e.test(TERMS, reasons, "29 letters: reason 3, 30 letters: reason 1", () -> {
            LetterRouter x = lettersTo(1, 29);
            Scenes.type(x, "p1");
            e.fails("with 29", Edges.REFUSED, x, LetterRouter::arrive);
            e.is("with 29", x.refusal(), 3);
            x.addLetter(0, 1, false);
            Scenes.type(x, "p1");
            e.fails("with 30", Edges.REFUSED, x, LetterRouter::arrive);
            e.is("with 30", x.refusal(), 1);
        });
        e.test(TERMS, reasons, "12 redirects do not refuse letters, 30 letters do not refuse redirects", () -> {
            LetterRouter x = lettersTo(1, 30);
            e.is("redirect", x.redirectPerson(0, 0, 0, 0), 0);
            LetterRouter y = Scenes.row(1);
            for (int i = 0; i < 12; i++) {
                y.redirectPerson(0, 0, 0, 0);
            }
            e.is("letter", y.addLetter(0, 1, false), 0);
        });
        e.test(TERMS, one, "the 30th letter's person is lacking, or the 31st's", () -> {
            LetterRouter x = lettersTo(1, 29);
            Scenes.type(x, "p1,p0");
            e.fails("the 30th", Edges.REFUSED, x, LetterRouter::arrive);
            e.is("the 30th", x.refusal(), 3);
            Scenes.type(x, "p0,p1");
            e.fails("the 31st", Edges.REFUSED, x, LetterRouter::arrive);
            e.is("the 31st", x.refusal(), 1);
        });
        e.test(TERMS, one, "the person of an early letter ahead of a late letter that is one too many", () -> {
            LetterRouter x = lettersTo(1, 28);
            Scenes.type(x, "p0,p1,p0");
            e.fails("early", Edges.REFUSED, x, LetterRouter::arrive);
            e.is("early", x.refusal(), 3);
            Scenes.type(x, "p0,p0,p0,p1");
            e.fails("late", Edges.REFUSED, x, LetterRouter::arrive);
            e.is("late", x.refusal(), 1);
        });
    }

    private static Object arrive(LetterRouter x) {
        Scenes.type(x, "p0w3r,p3");
        return x.arrive();
    }

    /** One call of each kind that is a change, in the order of the sentence that names them. */
    static final Edges.Act[] CHANGES = {x -> x.addHouse(2, 2), x -> x.addPerson(2),
        x -> x.addWalk(4, 2, 0, 1, 99), x -> x.redirectPerson(1, 0, 0, 365), x -> x.redirectHouse(3, 1, 0, 0),
        x -> x.dropRedirect(1), x -> x.hold(0, 365), x -> x.allow(1, 0, true), x -> x.setLimit(0, 0),
        x -> x.leave(2, 0, 365), x -> x.addLetter(0, 9, true), DeliveryEdges::arrive, x -> x.pass(60)};

    private void changes() {
        String change = "A change is a successful call of addHouse, addPerson, addWalk, redirectPerson, "
            + "redirectHouse, dropRedirect, hold, allow, setLimit, leave, addLetter, arrive or pass.";
        e.test(TERMS, change, "each of the 13 is one change, and undone all is as before", () -> {
            for (int i = 0; i < CHANGES.length; i++) {
                Edges.Act act = CHANGES[i];
                boolean isText = i == 11;
                LetterRouter x = Scenes.RESTORED.get();
                act.on(x);
                e.is("changes left by " + i, x.undo(), 0);
                Supplier<LetterRouter> before = isText ? DeliveryEdges::restoredWithoutFault : Scenes.RESTORED;
                e.same("change " + i, () -> {
                    LetterRouter y = Scenes.RESTORED.get();
                    act.on(y);
                    y.undo();
                    return y;
                }, before);
            }
        });
        e.test(TERMS, change, "the other calls are none", () -> {
            LetterRouter x = Scenes.RESTORED.get();
            x.walkOf(0);
            x.stop(0, 0);
            x.stopIndex(0);
            x.way(0, 0, 0);
            x.signer(1, 0);
            x.residents(0, 0, 0);
            x.append('p');
            x.faultPosition();
            x.refusal();
            x.letter(0, 0);
            x.noteLength(0);
            x.note(0, 0);
            x.delivered(0);
            x.daysLeft(0);
            x.today();
            x.account(0);
            x.returned(1);
            x.meanDays();
            x.save();
            e.fails("undo", Edges.STATE, x, LetterRouter::undo);
            x.pass(1);
            e.is("one change", x.undo(), 0);
        });
        e.test(TERMS, change, "a call of each that throws is none", () -> {
            Edges.Act[] failing = {x -> x.addHouse(5, 2), x -> x.addPerson(16), x -> x.addWalk(5, 2, 0, 1, 99),
                x -> x.redirectPerson(1, 0, 0, 366), x -> x.redirectHouse(3, 3, 0, 0), x -> x.dropRedirect(12),
                x -> x.hold(0, 366), x -> x.allow(1, 1, true), x -> x.setLimit(0, 10), x -> x.leave(2, 1, 0),
                x -> x.addLetter(0, 10, true), LetterRouter::arrive, x -> x.pass(61)};
            LetterRouter x = Scenes.RESTORED.get();
            for (Edges.Act act : failing) {
                Scenes.attempt(x, act);
            }
            e.fails("undo", Edges.STATE, x, LetterRouter::undo);
        });
    }

    /** Arrive has changed the fault position, which undo leaves. */
    private static LetterRouter restoredWithoutFault() {
        LetterRouter x = Scenes.RESTORED.get();
        arrive(x);
        x.restore();
        return x;
    }

    private void changesThatChangeNothing() {
        String even = "A successful call is a change even if it leaves all as it was.";
        e.test(TERMS, even, "hold, setLimit and allow with what is so already", () -> {
            Edges.Act[] idle = {x -> x.hold(0, -1), x -> x.hold(2, 20), x -> x.setLimit(0, 9), x -> x.setLimit(1, 4),
                x -> x.allow(0, 1, true), x -> x.allow(1, 0, false)};
            for (int i = 0; i < idle.length; i++) {
                LetterRouter x = Scenes.RESTORED.get();
                idle[i].on(x);
                e.is("changes left by " + i, x.undo(), 0);
                e.fails("one was enough for " + i, Edges.STATE, x, LetterRouter::undo);
            }
        });
        e.test(TERMS, even, "eight of them push out the change before", () -> {
            LetterRouter x = Scenes.row(1);
            x.pass(1);
            for (int i = 0; i < 8; i++) {
                x.setLimit(0, 9);
            }
            for (int left = 7; left >= 0; left--) {
                e.is("left", x.undo(), left);
            }
            e.is("today", x.today(), 1);
            e.fails("no more", Edges.STATE, x, LetterRouter::undo);
        });
    }

    private void keptChanges() {
        String latest = "The office before each of the latest 8 changes is kept and can be undone; restore forgets "
            + "them.";
        e.test(TERMS, latest, "8 changes can all be undone, of 9 the first can not", () -> {
            for (int changes = 7; changes <= 9; changes++) {
                LetterRouter x = new LetterRouter();
                for (int i = 0; i < changes; i++) {
                    x.pass(1);
                }
                int kept = Math.min(changes, 8);
                for (int i = 1; i <= kept; i++) {
                    e.is("undo " + i + " of " + changes, x.undo(), kept - i);
                    e.is("today", x.today(), changes - i);
                }
                e.fails("one more of " + changes, Edges.STATE, x, LetterRouter::undo);
            }
        });
        e.test(TERMS, latest, "the rows are used again and again", () -> {
            LetterRouter x = new LetterRouter();
            for (int i = 0; i < 60; i++) {
                x.pass(3);
                x.pass(1);
                x.undo();
                e.is("today", x.today(), 3 * (i + 1));
            }
            e.is("7 of 8 less one", x.undo(), 6);
            e.is("today at last", x.today(), 177);
        });
        e.test(TERMS, latest, "the last row of each office comes back", () -> {
            LetterRouter x = FULL.get();
            x.setLimit(19, 1);
            x.hold(19, 1);
            x.allow(19, 18, true);
            x.dropRedirect(11);
            x.leave(19, 0, 365);
            x.pass(60);
            for (int i = 0; i < 6; i++) {
                x.undo();
            }
            e.is("limit", x.setLimit(19, 9), 9);
            e.is("hold", x.hold(19, -1), -1);
            e.is("allowed", x.allow(19, 18, false), false);
            e.is("redirects", x.account(3), 12);
            e.is("the 12th redirect", x.way(11, 11, 0), 0);
            e.is("absence", x.signer(19, 0), 19);
            e.is("the 30th letter waits", x.letter(29, 4), 0);
        });
        e.test(TERMS, latest, "restore forgets one, and eight", () -> {
            LetterRouter x = new LetterRouter();
            x.save();
            for (int changes : new int[] {1, 8, 9}) {
                for (int i = 0; i < changes; i++) {
                    x.pass(1);
                }
                x.restore();
                e.fails("behind " + changes, Edges.STATE, x, LetterRouter::undo);
            }
            x.pass(1);
            e.is("a new one", x.undo(), 0);
        });
        e.test(TERMS, latest, "a restore that throws forgets none", () -> {
            LetterRouter x = new LetterRouter();
            x.pass(1);
            x.pass(1);
            e.fails("restore", Edges.STATE, x, y -> {
                y.restore();
                return "restored";
            });
            e.is("undo", x.undo(), 1);
        });
    }

    private void whatStays() {
        String stay = "The text buffer, the fault position and the reason that is kept do not belong to it, and stay.";
        e.test(TERMS, stay, "at undo: a text of 40 characters", () -> {
            LetterRouter x = FULL.get();
            for (int i = 0; i < 8; i++) {
                x.undo();
            }
            e.fails("the 41st", Edges.STATE, x, y -> {
                y.append('x');
                return "appended";
            });
            e.is("fault", x.faultPosition(), 3);
            e.is("reason", x.refusal(), 3);
        });
        e.test(TERMS, stay, "at undo: what arrive has emptied stays empty", () -> {
            LetterRouter x = Scenes.row(1);
            Scenes.type(x, "p0");
            x.arrive();
            x.undo();
            e.fails("nothing to read", Edges.ARGUMENT, x, LetterRouter::arrive);
            e.is("fault", x.faultPosition(), 0);
        });
        e.test(TERMS, stay, "at undo: what was typed behind the change stays, and what was refused", () -> {
            LetterRouter x = Scenes.row(1);
            x.pass(1);
            Scenes.type(x, "p");
            e.fails("fault", Edges.ARGUMENT, x, LetterRouter::arrive);
            e.fails("refused", Edges.REFUSED, x, y -> y.redirectHouse(0, 0, 0, 0));
            Scenes.type(x, "p0w2");
            x.undo();
            e.is("fault", x.faultPosition(), 1);
            e.is("reason", x.refusal(), 2);
            e.is("text", x.arrive(), 1);
            e.is("letter", note(x, 0), "p0w2?");
        });
        e.test(TERMS, stay, "at save and restore, too", () -> {
            LetterRouter x = Scenes.row(1);
            Scenes.type(x, "p0x");
            e.fails("fault", Edges.ARGUMENT, x, LetterRouter::arrive);
            x.save();
            Scenes.type(x, "p1");
            e.fails("refused", Edges.REFUSED, x, LetterRouter::arrive);
            Scenes.type(x, "p0r");
            x.restore();
            e.is("fault", x.faultPosition(), -1);
            e.is("reason", x.refusal(), 3);
            e.is("text", x.arrive(), 1);
        });
    }

    private void exceptions() {
        String unchanged = "A call that throws an exception leaves the state unchanged, unless stated otherwise.";
        String first = "If several conditions of a method are fulfilled, the one that is listed first determines the "
            + "exception.";
        e.test(TERMS, unchanged, "in the full office: one of each call", () -> {
            e.rejects("addHouse", Edges.STATE, FULL, x -> x.addHouse(4, 1));
            e.rejects("addPerson", Edges.STATE, FULL, x -> x.addPerson(15));
            e.rejects("addWalk", Edges.STATE, FULL, x -> x.addWalk(0, 0, 0, 1, 1));
            e.refuses("redirectPerson", 1, FULL, x -> x.redirectPerson(19, 15, 0, 365));
            e.refuses("redirectHouse", 1, FULL, x -> x.redirectHouse(15, 14, 0, 365));
            e.refuses("dropRedirect", 2, FULL, x -> x.dropRedirect(3));
            e.rejects("hold", Edges.ARGUMENT, FULL, x -> x.hold(19, 366));
            e.rejects("allow", Edges.ARGUMENT, FULL, x -> x.allow(19, 19, true));
            e.rejects("setLimit", Edges.ARGUMENT, FULL, x -> x.setLimit(19, 10));
            e.rejects("leave", Edges.ARGUMENT, FULL, x -> x.leave(19, 365, 366));
            e.refuses("addLetter", 1, FULL, x -> x.addLetter(19, 9, true));
            e.rejects("pass", Edges.ARGUMENT, FULL, x -> x.pass(61));
        });
        e.test(TERMS, unchanged,
            "a text that fails leaves all but the buffer, the fault position and the reason", () -> {
            e.failsToArrive("p0,p0w", Edges.ARGUMENT, 6, "", Scenes.LIVELY_READ);
            e.failsToArrive("p0,p3,p4", Edges.REFUSED, -1, "3", Scenes.LIVELY_READ);
            e.failsToArrive("p0,p3,p4", Edges.REFUSED, -1, "1", Scenes.FULL_READ);
        });
        e.test(TERMS, first, "all conditions of a method at once", () -> {
            e.rejects("addHouse", Edges.ARGUMENT, FULL, x -> x.addHouse(0, 2));
            e.rejects("addPerson", Edges.INDEX, FULL, x -> x.addPerson(16));
            e.rejects("addWalk", Edges.ARGUMENT, FULL, x -> x.addWalk(0, 0, 0, 2, 1));
            e.rejects("stop", Edges.INDEX, FULL, x -> x.stop(10, 99));
            e.rejects("redirectPerson", Edges.INDEX, FULL, x -> x.redirectPerson(20, 16, 1, 0));
            e.rejects("redirectHouse", Edges.INDEX, FULL, x -> x.redirectHouse(16, 16, 1, 0));
            e.rejects("way", Edges.INDEX, FULL, x -> x.way(20, 366, -2));
            e.rejects("way of a person", Edges.ARGUMENT, FULL, x -> x.way(19, 366, 99));
            e.rejects("hold", Edges.INDEX, FULL, x -> x.hold(20, 366));
            e.rejects("allow", Edges.INDEX, FULL, x -> x.allow(20, 20, true));
            e.rejects("setLimit", Edges.INDEX, FULL, x -> x.setLimit(20, 10));
            e.rejects("leave", Edges.INDEX, FULL, x -> x.leave(20, 1, 0));
            e.rejects("signer", Edges.INDEX, FULL, x -> x.signer(20, 366));
            e.rejects("residents", Edges.INDEX, FULL, x -> x.residents(16, 16, 366));
            e.rejects("addLetter", Edges.INDEX, FULL, x -> x.addLetter(20, 10, true));
            e.rejects("addLetter to a person", Edges.ARGUMENT, FULL, x -> x.addLetter(19, 10, true));
            e.rejects("letter", Edges.INDEX, FULL, x -> x.letter(30, 11));
            e.rejects("note", Edges.INDEX, FULL, x -> x.note(30, 99));
        });
        e.test(TERMS, first, "a text with a fault, a person who is lacking and a letter too many", () ->
            e.failsToArrive("p0,p99,p", Edges.ARGUMENT, 8, "", Scenes.FULL_READ));
        e.test(TERMS, first, "a letter that no longer waits on day 365", () ->
            e.rejects("daysLeft", Edges.STATE, Scenes.LAST_DAY, x -> x.daysLeft(0)));
    }
}
