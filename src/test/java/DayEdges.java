import java.util.function.Supplier;

/** The boundaries of promises 28 to 35: days, accounts, undo and snapshots. */
final class DayEdges {
    private static final Supplier<LetterRouter> LIVELY = Scenes.LIVELY;
    private static final Supplier<LetterRouter> FULL = Scenes.FULL;
    private static final Supplier<LetterRouter> EMPTY = Scenes.EMPTY;

    private final Edges e;

    private DayEdges(Edges e) {
        this.e = e;
    }

    static void addTo(Edges e) {
        DayEdges all = new DayEdges(e);
        all.pass();
        all.passThrows();
        all.today();
        all.account();
        all.accountThrows();
        all.returned();
        all.meanDays();
        all.undo();
        all.undoThrows();
        all.save();
        all.restore();
        all.restoreAnew();
    }

    private static Supplier<LetterRouter> onDay(int day) {
        return () -> {
            LetterRouter x = Scenes.row(1);
            Scenes.pass(x, day);
            return x;
        };
    }

    private static Object restored(LetterRouter x) {
        x.restore();
        return "restored";
    }

    private void pass() {
        String returns = "Returns the number of letters that are delivered in them.";
        e.test(28, "Lets some days go by.", "one, and 60 as if one by one", () -> {
            LetterRouter x = LIVELY.get();
            x.pass(60);
            LetterRouter y = LIVELY.get();
            int sum = 0;
            for (int i = 0; i < 60; i++) {
                sum += y.pass(1);
            }
            e.is("today", x.today(), 61);
            e.is("today one by one", y.today(), 61);
            e.is("delivered", sum, y.account(6) - 2);
            for (int i = 0; i < 7; i++) {
                e.is("letter " + i, Picture.noteOf(x, i), Picture.noteOf(y, i));
            }
        });
        e.test(28, "`days`: the number of days, 1 to 60", "1 and 60", () -> {
            LetterRouter x = new LetterRouter();
            x.pass(1);
            e.is("1", x.today(), 1);
            x.pass(60);
            e.is("61", x.today(), 61);
        });
        e.test(28, returns, "none, and all 30", () -> {
            LetterRouter x = Scenes.row(1);
            e.is("no letters", x.pass(1), 0);
            for (int i = 0; i < 30; i++) {
                x.addLetter(0, 1, i % 2 == 0);
            }
            e.is("all", x.pass(1), 30);
            e.is("none is left", x.pass(1), 0);
        });
        e.test(28, returns, "those of the first and of the last of the days, without returned ones", () -> {
            LetterRouter x = Scenes.row(4);
            for (int i = 0; i < 4; i++) {
                x.addLetter(i, 5, false);
            }
            x.hold(1, 9);
            x.hold(2, 10);
            x.setLimit(3, 4);
            e.is("days 0 to 10", x.pass(11), 2);
            e.is("day 11", x.pass(1), 1);
        });
    }

    private void passThrows() {
        String argument = "Throws `IllegalArgumentException` if days is out of range or today would be greater than "
            + "365";
        e.test(28, argument, "1 and 60 are in range, 0 and 61 are not", () -> {
            e.is("1", LIVELY.get().pass(1), 1);
            e.is("60", LIVELY.get().pass(60), 2);
            for (int days : Edges.outside(1, 60)) {
                e.rejects("days " + days, Edges.ARGUMENT, LIVELY, x -> x.pass(days));
            }
        });
        e.test(28, argument, "today can be 365, but not 366: one day", () -> {
            LetterRouter x = onDay(364).get();
            x.pass(1);
            e.is("today", x.today(), 365);
            e.rejects("one more", Edges.ARGUMENT, Scenes.LAST_DAY, y -> y.pass(1));
            e.rejects("two days from 364", Edges.ARGUMENT, onDay(364), y -> y.pass(2));
        });
        e.test(28, argument, "today can be 365, but not 366: 60 days", () -> {
            LetterRouter x = onDay(305).get();
            x.pass(60);
            e.is("today", x.today(), 365);
            e.rejects("60 days from 306", Edges.ARGUMENT, onDay(306), y -> y.pass(60));
        });
        e.test(28, argument, "on the last day the sum does not wrap around", () -> {
            e.rejects("the greatest", Edges.ARGUMENT, Scenes.LAST_DAY, y -> y.pass(Integer.MAX_VALUE));
            e.rejects("back", Edges.ARGUMENT, Scenes.LAST_DAY, y -> y.pass(-365));
            e.rejects("none", Edges.ARGUMENT, Scenes.LAST_DAY, y -> y.pass(0));
        });
    }

    private void today() {
        e.test(29, "Returns which day it is.", "0 and 365", () -> {
            e.is("first", new LetterRouter().today(), 0);
            e.is("last", onDay(365).get().today(), 365);
        });
        e.test(29, "Returns today.", "a call of pass that throws leaves it", () -> {
            LetterRouter x = onDay(364).get();
            e.fails("two days", Edges.ARGUMENT, x, y -> y.pass(2));
            e.is("today", x.today(), 364);
        });
        e.test(29, "Returns today.", "behind undo and restore", () -> {
            LetterRouter x = onDay(365).get();
            x.undo();
            e.is("undone", x.today(), 360);
            x.save();
            x.pass(5);
            x.restore();
            e.is("restored", x.today(), 360);
        });
    }

    private void account() {
        String what = "`what`: 0 for the houses, 1 for the persons, 2 for the walks, 3 for the redirects that are "
            + "kept, 4 for the letters that were made, 5 for those that wait, 6 for those that were delivered, 7 "
            + "for those that were returned, 8 for the weight of those that wait, 9 for the houses that no walk "
            + "serves, 10 for the failed tries of all letters";
        e.test(30, "Returns an account.", "each of an empty office", () -> {
            for (int i = 0; i <= 10; i++) {
                e.is("account " + i, new LetterRouter().account(i), 0);
            }
        });
        e.test(30, what, "each of a lively office", () -> {
            int[] due = {4, 4, 1, 5, 7, 3, 2, 2, 14, 1, 1};
            for (int i = 0; i <= 10; i++) {
                e.is("account " + i, LIVELY.get().account(i), due[i]);
            }
        });
        e.test(30, "Returns the number.", "16 houses, 20 persons, 10 walks, 12 redirects and 30 letters", () -> {
            int[] due = {16, 20, 10, 12, 30};
            for (int i = 0; i < 5; i++) {
                e.is("account " + i, FULL.get().account(i), due[i]);
            }
        });
        e.test(30, "Returns the number.", "30 wait with all the weight there can be, then all are returned", () -> {
            LetterRouter x = Scenes.row(1);
            for (int i = 0; i < 30; i++) {
                x.addLetter(0, 9, true);
            }
            x.leave(0, 0, 365);
            e.is("wait", x.account(5), 30);
            e.is("weight", x.account(8), 270);
            x.pass(3);
            e.is("wait no longer", x.account(5), 0);
            e.is("no weight", x.account(8), 0);
            e.is("delivered", x.account(6), 0);
            e.is("returned", x.account(7), 30);
            e.is("failed tries, three for each", x.account(10), 90);
        });
        e.test(30, "Returns the number.", "all 30 are delivered", () -> {
            LetterRouter x = Scenes.row(1);
            for (int i = 0; i < 30; i++) {
                x.addLetter(0, 9, true);
            }
            x.pass(1);
            e.is("delivered", x.account(6), 30);
            e.is("returned", x.account(7), 0);
            e.is("made", x.account(4), 30);
        });
        e.test(30, "Returns the number.", "no walk serves any of 16 houses, one serves all", () -> {
            LetterRouter x = new LetterRouter();
            for (int i = 1; i <= 16; i++) {
                x.addHouse(0, i);
            }
            e.is("none", x.account(9), 16);
            x.addWalk(0, 2, 0, 2, 15);
            e.is("all but the first and the last", x.account(9), 2);
            x.addWalk(0, 2, 0, 1, 99);
            e.is("all", x.account(9), 0);
        });
    }

    private void accountThrows() {
        String argument = "Throws `IllegalArgumentException` if what is not from 0 to 10";
        e.test(30, argument, "0 and 10 are possible, -1 and 11 are not", () -> {
            e.is("what 0", LIVELY.get().account(0), 4);
            e.is("what 10", LIVELY.get().account(10), 1);
            for (int what : Edges.outside(0, 10)) {
                e.rejects("what " + what, Edges.ARGUMENT, LIVELY, x -> x.account(what));
            }
        });
        e.test(30, argument, "asking for what is possible changes nothing", () -> {
            for (int i = 0; i <= 10; i++) {
                int what = i;
                e.onlyAnswers("account " + i, LIVELY, x -> x.account(what));
            }
        });
    }

    private void returned() {
        String argument = "Throws `IllegalArgumentException` if there is no such reason";
        e.test(31, "Returns the number of letters that were returned for a reason.", "none at first", () -> {
            for (int reason = 1; reason <= 4; reason++) {
                e.is("reason " + reason, new LetterRouter().returned(reason), 0);
            }
        });
        e.test(31, "`reason`: the reason, 1 to 4", "1 and 4", () -> {
            LetterRouter x = new LetterRouter();
            x.addHouse(0, 1);
            x.addPerson(0);
            x.addPerson(0);
            x.hold(1, 365);
            x.addLetter(0, 1, false);
            x.addLetter(1, 1, false);
            x.pass(31);
            e.is("reason 1", x.returned(1), 1);
            e.is("reason 2", x.returned(2), 0);
            e.is("reason 3", x.returned(3), 0);
            e.is("reason 4", x.returned(4), 1);
        });
        e.test(31, "Returns the number.", "all 30 for each of the reasons", () -> {
            for (int reason = 1; reason <= 4; reason++) {
                LetterRouter x = Scenes.row(1);
                x.addHouse(1, 1);
                x.addPerson(1);
                int person = reason == 1 ? 1 : 0;
                for (int i = 0; i < 30; i++) {
                    x.addLetter(person, 2, true);
                }
                x.setLimit(person, reason == 2 ? 1 : 9);
                x.hold(person, reason == 4 ? 365 : -1);
                x.leave(person, 0, 365);
                x.pass(31);
                for (int asked = 1; asked <= 4; asked++) {
                    e.is("reason " + asked, x.returned(asked), asked == reason ? 30 : 0);
                }
            }
        });
        e.test(31, argument, "1 and 4 are reasons, 0 and 5 are not", () -> {
            e.is("reason 1", LIVELY.get().returned(1), 1);
            e.is("reason 4", LIVELY.get().returned(4), 0);
            for (int reason : Edges.outside(1, 4)) {
                e.rejects("reason " + reason, Edges.ARGUMENT, LIVELY, x -> x.returned(reason));
            }
        });
        e.test(31, argument, "-1, which letter answers for no reason, is none", () ->
            e.rejects("reason -1", Edges.ARGUMENT, LIVELY, x -> x.returned(-1)));
    }

    private void meanDays() {
        String mean = "Returns the mean number of days from the day on which a letter came to that on which it was "
            + "delivered.";
        String divided = "Returns the sum divided by the number of letters that were delivered, both as doubles.";
        String none = "Throws `ArithmeticException` if none was delivered";
        e.test(32, mean, "0 on the day on which it came", () -> {
            LetterRouter x = onDay(364).get();
            x.addLetter(0, 1, false);
            x.pass(1);
            e.is("mean", x.meanDays(), 0.0);
        });
        e.test(32, mean, "30 at most", () -> {
            LetterRouter x = Scenes.row(1);
            x.hold(0, 29);
            x.addLetter(0, 1, false);
            x.pass(31);
            e.is("mean", x.meanDays(), 30.0);
        });
        e.test(32, divided, "a mean that is no whole number", () -> {
            LetterRouter x = Scenes.row(2);
            x.addLetter(0, 1, false);
            x.addLetter(0, 1, false);
            x.addLetter(1, 1, false);
            x.hold(1, 0);
            x.pass(2);
            e.is("1 by 3", x.meanDays(), 1.0 / 3.0);
        });
        e.test(32, divided, "letters that wait or were returned do not count", () -> {
            LetterRouter x = Scenes.row(3);
            x.addLetter(0, 1, false);
            x.addLetter(1, 9, false);
            x.addLetter(2, 1, false);
            x.hold(0, 1);
            x.setLimit(1, 8);
            x.hold(2, 365);
            x.pass(3);
            e.is("2 by 1", x.meanDays(), 2.0);
        });
        e.test(32, divided, "of all 30 letters, half of them on the day they came, half a day later", () -> {
            LetterRouter x = Scenes.row(2);
            x.hold(1, 0);
            for (int i = 0; i < 30; i++) {
                x.addLetter(i % 2, 1, false);
            }
            x.pass(2);
            e.is("15 by 30", x.meanDays(), 0.5);
        });
        e.test(32, none, "no letter, one that waits and one that was returned", () -> {
            Supplier<LetterRouter> returned = () -> {
                LetterRouter x = Scenes.row(1);
                x.setLimit(0, 0);
                x.addLetter(0, 1, false);
                x.pass(1);
                x.hold(0, 9);
                x.addLetter(0, 1, false);
                return x;
            };
            e.rejects("no letter", Edges.ARITHMETIC, EMPTY, LetterRouter::meanDays);
            e.rejects("none of two", Edges.ARITHMETIC, returned, LetterRouter::meanDays);
        });
        e.test(32, none, "the only delivery was undone", () -> {
            LetterRouter x = Scenes.row(1);
            x.addLetter(0, 1, false);
            x.pass(1);
            e.is("one", x.meanDays(), 0.0);
            x.undo();
            e.fails("none", Edges.ARITHMETIC, x, LetterRouter::meanDays);
        });
    }

    private void undo() {
        String undoes = "Undoes the latest change that is kept.";
        String returns = "Returns the number of changes that can still be undone.";
        e.test(33, undoes, "the latest of two first, then the other one", () -> {
            LetterRouter x = Scenes.row(1);
            x.setLimit(0, 1);
            x.setLimit(0, 2);
            x.undo();
            e.is("the other one stands", x.setLimit(0, 2), 1);
            x.undo();
            x.undo();
            e.is("none stands", x.setLimit(0, 2), 9);
        });
        e.test(33, undoes, "a pass of 60 days is one change", () -> {
            LetterRouter x = Scenes.row(1);
            x.addLetter(0, 1, false);
            x.pass(60);
            x.undo();
            e.is("today", x.today(), 0);
            e.is("waits", x.letter(0, 4), 0);
        });
        e.test(33, undoes, "a text of 13 letters is one change", () -> {
            LetterRouter x = Scenes.row(1);
            Scenes.type(x, "p0,p0,p0,p0,p0,p0,p0,p0,p0,p0,p0,p0,p0");
            x.arrive();
            x.undo();
            e.is("letters", x.account(4), 0);
        });
        e.test(33, returns, "0 of one", () -> {
            LetterRouter x = new LetterRouter();
            x.pass(1);
            e.is("none is left", x.undo(), 0);
        });
        e.test(33, returns, "7 of eight, and 7 of nine", () -> {
            for (int changes : new int[] {8, 9}) {
                LetterRouter x = new LetterRouter();
                for (int i = 0; i < changes; i++) {
                    x.pass(1);
                }
                for (int left = 7; left >= 0; left--) {
                    e.is("left of " + changes, x.undo(), left);
                }
                e.is("today behind " + changes, x.today(), changes - 8);
            }
        });
        e.test(33, returns, "a new change behind some that were undone", () -> {
            LetterRouter x = new LetterRouter();
            for (int i = 0; i < 8; i++) {
                x.pass(1);
            }
            x.undo();
            x.undo();
            x.pass(10);
            e.is("6 are left", x.undo(), 6);
            e.is("today", x.today(), 6);
        });
    }

    private void undoThrows() {
        String state = "Throws `IllegalStateException` if no change is kept";
        e.test(33, state, "at first", () -> e.rejects("undo", Edges.STATE, EMPTY, LetterRouter::undo));
        e.test(33, state, "the 8th of nine can be undone, the 9th can not", () -> {
            Supplier<LetterRouter> eight = () -> {
                LetterRouter x = LIVELY.get();
                for (int i = 0; i < 7; i++) {
                    x.undo();
                }
                return x;
            };
            e.is("the 8th", eight.get().undo(), 0);
            e.rejects("the 9th", Edges.STATE, () -> {
                LetterRouter x = eight.get();
                x.undo();
                return x;
            }, LetterRouter::undo);
        });
        e.test(33, state, "behind restore", () ->
            e.rejects("undo", Edges.STATE, Scenes.RESTORED, LetterRouter::undo));
        e.test(33, state, "calls that only answer or throw are none", () -> {
            LetterRouter x = new LetterRouter();
            x.today();
            x.account(0);
            x.append('x');
            x.save();
            e.fails("house", Edges.ARGUMENT, x, y -> y.addHouse(5, 0));
            e.fails("text", Edges.ARGUMENT, x, LetterRouter::arrive);
            e.fails("undo", Edges.STATE, x, LetterRouter::undo);
        });
    }

    private void save() {
        String saves = "Saves the office, in place of an earlier snapshot.";
        e.test(34, saves, "the empty office, over which a full one is made", () -> {
            e.same("the empty one", () -> {
                LetterRouter x = new LetterRouter();
                x.save();
                x.addHouse(0, 1);
                x.addPerson(0);
                x.addWalk(0, 2, 0, 1, 99);
                x.redirectPerson(0, 0, 0, 365);
                x.leave(0, 0, 1);
                x.addLetter(0, 1, false);
                x.pass(60);
                x.restore();
                return x;
            }, () -> {
                LetterRouter x = new LetterRouter();
                x.save();
                return x;
            });
        });
        e.test(34, saves, "the full office, over which others are made", () -> e.same("the full one", () -> {
            LetterRouter x = Scenes.FULL_READ.get();
            x.save();
            x.pass(60);
            x.dropRedirect(4);
            x.setLimit(19, 0);
            x.hold(19, 365);
            x.allow(19, 0, true);
            for (int i = 0; i < 20; i++) {
                x.leave(19, i, 365);
            }
            x.restore();
            return x;
        }, () -> {
            LetterRouter x = Scenes.FULL_READ.get();
            x.save();
            x.restore();
            return x;
        }));
        e.test(34, saves, "the second of two snapshots counts", () -> {
            LetterRouter x = new LetterRouter();
            x.save();
            x.pass(1);
            x.save();
            x.pass(1);
            x.restore();
            e.is("today", x.today(), 1);
            x.restore();
            e.is("today again", x.today(), 1);
        });
        e.test(34, saves, "all else stays: changes, text, fault and reason", () -> {
            LetterRouter x = LIVELY.get();
            x.save();
            e.is("undone", x.undo(), 7);
            e.is("fault", x.faultPosition(), 3);
            e.is("reason", x.refusal(), 3);
            e.is("text", x.arrive(), 2);
        });
    }

    private void restore() {
        String restores = "Restores what was saved; the snapshot is kept.";
        String state = "Throws `IllegalStateException` if there is no snapshot";
        e.test(35, restores, "twice and once more", () -> {
            Supplier<LetterRouter> once = Scenes.RESTORED;
            e.same("behind 60 days", () -> {
                LetterRouter x = once.get();
                x.pass(60);
                x.restore();
                x.addHouse(3, 3);
                x.restore();
                return x;
            }, once);
        });
        e.test(35, restores, "at once, with nothing done between", () -> e.same("saved and restored", () -> {
            LetterRouter x = Scenes.RESTORED.get();
            x.save();
            x.restore();
            return x;
        }, Scenes.RESTORED));
        e.test(35, restores, "also what was saved behind changes that were undone", () -> {
            LetterRouter x = new LetterRouter();
            x.pass(5);
            x.save();
            x.undo();
            e.is("undone", x.today(), 0);
            x.restore();
            e.is("restored", x.today(), 5);
        });
        e.test(35, restores, "an undo behind it does not touch the snapshot", () -> {
            LetterRouter x = new LetterRouter();
            x.save();
            x.pass(5);
            x.restore();
            x.pass(7);
            e.is("one change", x.undo(), 0);
            x.pass(9);
            x.restore();
            e.is("today", x.today(), 0);
        });
        e.test(35, state, "at first, and behind changes", () -> {
            e.rejects("at first", Edges.STATE, EMPTY, DayEdges::restored);
            e.rejects("behind changes", Edges.STATE, () -> Scenes.row(3), DayEdges::restored);
        });
        e.test(35, state, "a snapshot of an empty office is one", () -> {
            LetterRouter x = new LetterRouter();
            x.save();
            e.is("restore", restored(x), "restored");
        });
    }

    /** No change is kept; three houses in street 4. */
    private static LetterRouter base() {
        LetterRouter x = Scenes.RESTORED.get();
        x.addHouse(4, 97);
        x.addHouse(4, 98);
        x.save();
        x.restore();
        return x;
    }

    /** What is saved is undone, and another one is made under its number, before it is restored. */
    private void comesBack(String what, Edges.Act made, Edges.Act other) {
        e.same(what, () -> {
            LetterRouter x = base();
            made.on(x);
            x.save();
            for (int i = 0; i < 8; i++) {
                Scenes.attempt(x, LetterRouter::undo);
            }
            other.on(x);
            x.restore();
            return x;
        }, () -> {
            LetterRouter x = base();
            made.on(x);
            x.save();
            x.restore();
            return x;
        });
    }

    private void restoreAnew() {
        String restores = "Restores what was saved; the snapshot is kept.";
        e.test(35, restores, "a house, a person and a walk in place of others with their numbers", () -> {
            comesBack("house", x -> x.addHouse(2, 2), x -> x.addHouse(3, 3));
            comesBack("person", x -> x.addPerson(2), x -> x.addPerson(0));
            comesBack("walk", x -> x.addWalk(4, 2, 0, 97, 99), x -> x.addWalk(3, 0, 1, 98, 98));
        });
        e.test(35, restores, "redirects and absences in place of others with their numbers", () -> {
            comesBack("of a person", x -> x.redirectPerson(1, 0, 2, 3), x -> x.redirectPerson(2, 3, 5, 8));
            comesBack("of a house", x -> x.redirectHouse(0, 3, 2, 3), x -> x.redirectPerson(0, 2, 2, 3));
            comesBack("the last of all", x -> x.dropRedirect(4), x -> x.dropRedirect(0));
            comesBack("absence", x -> x.leave(2, 0, 9), x -> x.leave(1, 11, 12));
        });
        e.test(35, restores, "a hold, a limit and an allowance in place of others", () -> {
            comesBack("hold", x -> x.hold(2, 9), x -> x.hold(2, 19));
            comesBack("limit", x -> x.setLimit(2, 3), x -> x.setLimit(2, 5));
            comesBack("allowance", x -> x.allow(2, 0, true), x -> x.allow(2, 1, true));
        });
        e.test(35, restores, "a letter in place of one that came on another day", () ->
            comesBack("letter", x -> x.addLetter(0, 9, true), x -> {
                x.pass(1);
                return x.addLetter(1, 3, false);
            }));
        e.test(35, restores, "deliveries in place of those of the same letters in another order", () ->
            comesBack("deliveries", x -> deliver(x, 1, 2), x -> deliver(x, 2, 1)));
        e.test(35, restores, "letters that were returned in place of those that were delivered", () -> {
            Edges.Act returned = x -> {
                x.setLimit(1, 0);
                return deliver(x, 1, 2);
            };
            comesBack("returned", returned, x -> deliver(x, 1, 2));
            comesBack("delivered", x -> deliver(x, 1, 2), returned);
        });
    }

    private static Object deliver(LetterRouter x, int weight, int otherWeight) {
        x.addLetter(1, weight, false);
        x.addLetter(1, otherWeight, true);
        return x.pass(1);
    }
}
