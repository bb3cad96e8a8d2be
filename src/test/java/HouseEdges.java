import java.util.function.Supplier;

/** The boundaries of promises 1 to 7: a new object, houses, persons and walks. */
final class HouseEdges {
    private static final String NO_HOUSE = "Throws `IndexOutOfBoundsException` if there is no such house";
    private static final Supplier<LetterRouter> LIVELY = Scenes.LIVELY;
    private static final Supplier<LetterRouter> FULL = Scenes.FULL;

    private final Edges e;

    private HouseEdges(Edges e) {
        this.e = e;
    }

    static void addTo(Edges e) {
        HouseEdges all = new HouseEdges(e);
        all.newObject();
        all.addHouse();
        all.addHouseThrows();
        all.addPerson();
        all.addPersonThrows();
        all.addWalk();
        all.addWalkThrows();
        all.walkOf();
        all.stop();
        all.stopThrows();
        all.stopIndex();
    }

    private void newObject() {
        String creates = "Creates an office without houses, persons, walks and letters on day 0.";
        e.test(1, creates, "nothing is there", () -> {
            LetterRouter x = new LetterRouter();
            for (int what = 0; what <= 10; what++) {
                e.is("account " + what, x.account(what), 0);
            }
            for (int reason = 1; reason <= 4; reason++) {
                e.is("returned " + reason, x.returned(reason), 0);
            }
            e.is("today", x.today(), 0);
        });
        e.test(1, creates, "not even number 0", () -> {
            LetterRouter x = new LetterRouter();
            e.fails("house 0", Edges.INDEX, x, y -> y.walkOf(0));
            e.fails("person 0", Edges.INDEX, x, y -> y.setLimit(0, 9));
            e.fails("walk 0", Edges.INDEX, x, y -> y.stop(0, 0));
            e.fails("redirect 0", Edges.INDEX, x, y -> y.dropRedirect(0));
            e.fails("letter 0", Edges.INDEX, x, y -> y.letter(0, 0));
            e.fails("delivery 0", Edges.MISSING, x, y -> y.delivered(0));
        });
        e.test(1, creates, "no change, snapshot, fault, reason or text is kept", () -> {
            LetterRouter x = new LetterRouter();
            e.fails("undo", Edges.STATE, x, LetterRouter::undo);
            e.fails("restore", Edges.STATE, x, HouseEdges::restore);
            e.fails("refusal", Edges.MISSING, x, LetterRouter::refusal);
            e.is("fault position", x.faultPosition(), -1);
            e.fails("the empty text", Edges.ARGUMENT, x, LetterRouter::arrive);
            e.is("its fault", x.faultPosition(), 0);
        });
        e.test(1, creates, "whatever another object holds that was made ahead or behind", () -> {
            e.same("made ahead", () -> {
                LetterRouter early = new LetterRouter();
                FULL.get();
                return early;
            }, Scenes.EMPTY);
            e.same("made behind", () -> {
                FULL.get();
                return new LetterRouter();
            }, Scenes.EMPTY);
        });
    }

    private static Object restore(LetterRouter x) {
        x.restore();
        return "restored";
    }

    private void addHouse() {
        e.test(2, "Makes a house.", "the lowest and the highest of both", () -> {
            LetterRouter x = new LetterRouter();
            x.addHouse(0, 1);
            x.addHouse(0, 99);
            x.addHouse(4, 1);
            x.addHouse(4, 99);
            e.is("houses", x.account(0), 4);
            e.is("first of street 0", x.addWalk(0, 2, 0, 1, 1), 1);
            e.is("last of street 0", x.addWalk(0, 2, 0, 99, 99), 1);
            e.is("first of street 4", x.addWalk(4, 2, 0, 1, 1), 1);
            e.is("last of street 4", x.addWalk(4, 2, 0, 99, 99), 1);
        });
        e.test(2, "Returns the number of the house.", "from 0 to 15", () -> {
            LetterRouter x = new LetterRouter();
            for (int i = 0; i < 16; i++) {
                e.is("house " + i, x.addHouse(i % 5, 99 - i), i);
            }
        });
        e.test(2, "Returns the number of the house.", "a call that throws uses none up", () -> {
            LetterRouter x = new LetterRouter();
            e.is("the first", x.addHouse(0, 1), 0);
            e.fails("the same", Edges.ARGUMENT, x, y -> y.addHouse(0, 1));
            e.is("the second", x.addHouse(0, 2), 1);
        });
        e.test(2, "Returns the number of the house.", "one that is undone is given again", () -> {
            LetterRouter x = new LetterRouter();
            x.addHouse(0, 1);
            x.addHouse(0, 2);
            x.undo();
            e.is("once more", x.addHouse(0, 3), 1);
        });
    }

    private void addHouseThrows() {
        String argument = "Throws `IllegalArgumentException` if a number is out of range, or there is such a house";
        String state = "Throws `IllegalStateException` if 16 houses were made";
        e.test(2, argument, "streets 0 and 4 are in range, -1 and 5 are not", () -> {
            e.is("street 0", LIVELY.get().addHouse(0, 50), 4);
            e.is("street 4", LIVELY.get().addHouse(4, 50), 4);
            for (int street : Edges.outside(0, 4)) {
                e.rejects("street " + street, Edges.ARGUMENT, LIVELY, x -> x.addHouse(street, 50));
            }
        });
        e.test(2, argument, "house numbers 1 and 99 are in range, 0 and 100 are not", () -> {
            e.is("number 1", LIVELY.get().addHouse(3, 1), 4);
            e.is("number 99", LIVELY.get().addHouse(3, 99), 4);
            for (int number : Edges.outside(1, 99)) {
                e.rejects("number " + number, Edges.ARGUMENT, LIVELY, x -> x.addHouse(3, number));
            }
        });
        e.test(2, argument, "the first and the last house are such houses", () -> {
            e.rejects("that of house 0", Edges.ARGUMENT, LIVELY, x -> x.addHouse(0, 2));
            e.rejects("that of house 3", Edges.ARGUMENT, LIVELY, x -> x.addHouse(4, 99));
        });
        e.test(2, argument, "one of both the same is no such house", () -> {
            e.is("same street", LIVELY.get().addHouse(4, 2), 4);
            e.is("same number", LIVELY.get().addHouse(1, 99), 4);
        });
        e.test(2, argument, "one whose making was undone is no such house", () -> {
            LetterRouter x = new LetterRouter();
            x.addHouse(2, 2);
            x.undo();
            e.is("again", x.addHouse(2, 2), 0);
        });
        e.test(2, argument, "listed ahead of the 16 houses", () -> {
            e.rejects("out of range", Edges.ARGUMENT, FULL, x -> x.addHouse(5, 50));
            e.rejects("such a house", Edges.ARGUMENT, FULL, x -> x.addHouse(0, 2));
        });
        e.test(2, state, "the 16th is made, the 17th is not", () -> {
            LetterRouter x = FULL.get();
            e.is("houses", x.account(0), 16);
            e.rejects("the 17th", Edges.STATE, FULL, y -> y.addHouse(3, 50));
        });
        e.test(2, state, "when one of the 16 is undone there is room for one", () -> {
            LetterRouter x = new LetterRouter();
            for (int i = 1; i <= 16; i++) {
                x.addHouse(0, i);
            }
            x.undo();
            e.is("the 16th again", x.addHouse(0, 17), 15);
            e.fails("the 17th", Edges.STATE, x, y -> y.addHouse(0, 18));
        });
    }

    private void addPerson() {
        String makes = "Makes a person, without a limit of weight, a hold and absences, who has allowed nobody.";
        e.test(3, makes, "no limit: the heaviest letter is delivered", () -> {
            LetterRouter x = Scenes.row(1);
            x.addLetter(0, 9, false);
            e.is("delivered", x.pass(1), 1);
            e.is("the limit", x.setLimit(0, 0), 9);
        });
        e.test(3, makes, "the first and the last one have no limit and no hold", () -> {
            LetterRouter x = Scenes.twentyAtHome();
            for (int person : new int[] {0, 19}) {
                e.is("limit of " + person, x.setLimit(person, 3), 9);
                e.is("hold of " + person, x.hold(person, 3), -1);
            }
        });
        e.test(3, makes, "the first and the last one are there from day 0 to day 365", () -> {
            LetterRouter x = Scenes.twentyAtHome();
            for (int person : new int[] {0, 19}) {
                e.is(person + " on day 0", x.signer(person, 0), person);
                e.is(person + " on day 365", x.signer(person, 365), person);
            }
        });
        e.test(3, makes, "none of 20 has allowed any other", () -> {
            for (int i = 0; i < 20; i++) {
                LetterRouter x = Scenes.twentyAtHome();
                for (int other = 0; other < 20; other++) {
                    if (other != i) {
                        e.is(i + " has allowed " + other, x.allow(i, other, false), false);
                    }
                }
            }
        });
        e.test(3, makes, "nothing is left of a person of this number who was undone", () -> {
            LetterRouter x = Scenes.row(2);
            x.addPerson(0);
            x.setLimit(2, 1);
            x.hold(2, 365);
            x.leave(2, 0, 365);
            x.allow(2, 0, true);
            x.redirectPerson(2, 1, 0, 365);
            for (int i = 0; i < 6; i++) {
                x.undo();
            }
            e.is("its number", x.addPerson(0), 2);
            e.is("absent", x.signer(2, 0), 2);
            e.is("redirected", x.way(2, 0, 0), 0);
            e.is("limit", x.setLimit(2, 9), 9);
            e.is("hold", x.hold(2, -1), -1);
            e.is("allowed", x.allow(2, 0, false), false);
        });
    }

    private void addPersonThrows() {
        String state = "Throws `IllegalStateException` if 20 persons were made";
        e.test(3, "Returns the number of the person.", "from 0 to 19", () -> {
            LetterRouter x = new LetterRouter();
            x.addHouse(0, 1);
            for (int i = 0; i < 20; i++) {
                e.is("person " + i, x.addPerson(0), i);
            }
        });
        e.test(3, NO_HOUSE, "none is there", () ->
            e.rejects("house 0", Edges.INDEX, Scenes.EMPTY, x -> x.addPerson(0)));
        e.test(3, NO_HOUSE, "the first and the last one are there, those next to them are not", () -> {
            e.is("house 0", LIVELY.get().addPerson(0), 4);
            e.is("house 3", LIVELY.get().addPerson(3), 4);
            for (int house : Edges.outside(0, 3)) {
                e.rejects("house " + house, Edges.INDEX, LIVELY, x -> x.addPerson(house));
            }
        });
        e.test(3, NO_HOUSE, "the 16th is there", () -> {
            LetterRouter x = new LetterRouter();
            for (int i = 1; i <= 16; i++) {
                x.addHouse(0, i);
            }
            e.is("house 15", x.addPerson(15), 0);
            e.fails("house 16", Edges.INDEX, x, y -> y.addPerson(16));
        });
        e.test(3, NO_HOUSE, "listed ahead of the 20 persons", () ->
            e.rejects("house 16", Edges.INDEX, FULL, x -> x.addPerson(16)));
        e.test(3, state, "the 20th is made, the 21st is not", () -> {
            e.is("persons", FULL.get().account(1), 20);
            e.rejects("the 21st", Edges.STATE, FULL, x -> x.addPerson(0));
        });
        e.test(3, state, "when one of the 20 is undone there is room for one", () -> {
            LetterRouter x = Scenes.twentyAtHome();
            x.undo();
            e.is("the 20th again", x.addPerson(0), 19);
            e.fails("the 21st", Edges.STATE, x, y -> y.addPerson(0));
        });
    }

    private void addWalk() {
        String returns = "Returns the number of houses that it serves.";
        e.test(4, "Makes a walk.", "the narrowest and the widest one", () -> {
            LetterRouter x = new LetterRouter();
            x.addHouse(0, 1);
            x.addWalk(0, 2, 0, 1, 1);
            e.is("narrowest", x.walkOf(0), 0);
            x.addHouse(4, 99);
            x.addWalk(4, 2, 1, 1, 99);
            e.is("widest", x.walkOf(1), 1);
            e.is("walks", x.account(2), 2);
        });
        e.test(4, returns, "none", () -> {
            LetterRouter x = new LetterRouter();
            e.is("no houses", x.addWalk(0, 2, 0, 1, 99), 0);
            x.addHouse(0, 1);
            e.is("all are served", x.addWalk(0, 2, 0, 1, 99), 0);
        });
        e.test(4, returns, "all 16", () -> {
            LetterRouter x = new LetterRouter();
            for (int i = 1; i <= 16; i++) {
                x.addHouse(0, i);
            }
            e.is("all", x.addWalk(0, 2, 0, 1, 99), 16);
        });
        e.test(4, returns, "only those that no lower walk serves", () -> {
            LetterRouter x = new LetterRouter();
            for (int i = 1; i <= 16; i++) {
                x.addHouse(0, i);
            }
            e.is("odd ones", x.addWalk(0, 1, 0, 1, 99), 8);
            e.is("up to 4", x.addWalk(0, 2, 0, 1, 4), 2);
            e.is("the others", x.addWalk(0, 2, 0, 1, 99), 6);
            e.is("none is left", x.addWalk(0, 2, 0, 1, 99), 0);
        });
    }

    private void addWalkThrows() {
        String argument = "Throws `IllegalArgumentException` if a number is out of range or first is greater than last";
        String state = "Throws `IllegalStateException` if 10 walks were made";
        e.test(4, argument, "streets 0 and 4 are in range, -1 and 5 are not", () -> {
            e.is("street 0", LIVELY.get().addWalk(0, 2, 0, 1, 99), 0);
            e.is("street 4", LIVELY.get().addWalk(4, 2, 0, 1, 99), 1);
            for (int street : Edges.outside(0, 4)) {
                e.rejects("street " + street, Edges.ARGUMENT, LIVELY, x -> x.addWalk(street, 2, 0, 1, 99));
            }
        });
        e.test(4, argument, "sides 0 to 2 are in range, -1 and 3 are not", () -> {
            e.is("side 0", LIVELY.get().addWalk(4, 0, 0, 1, 99), 0);
            e.is("side 1", LIVELY.get().addWalk(4, 1, 0, 1, 99), 1);
            e.is("side 2", LIVELY.get().addWalk(4, 2, 0, 1, 99), 1);
            for (int side : Edges.outside(0, 2)) {
                e.rejects("side " + side, Edges.ARGUMENT, LIVELY, x -> x.addWalk(4, side, 0, 1, 99));
            }
        });
        e.test(4, argument, "directions 0 and 1 are in range, -1 and 2 are not", () -> {
            e.is("direction 0", LIVELY.get().addWalk(4, 2, 0, 1, 99), 1);
            e.is("direction 1", LIVELY.get().addWalk(4, 2, 1, 1, 99), 1);
            for (int direction : Edges.outside(0, 1)) {
                e.rejects("direction " + direction, Edges.ARGUMENT, LIVELY, x -> x.addWalk(4, 2, direction, 1, 99));
            }
        });
        e.test(4, argument, "house numbers 1 and 99 are in range, 0 and 100 are not", () -> {
            e.is("both 1", LIVELY.get().addWalk(4, 2, 0, 1, 1), 0);
            e.is("both 99", LIVELY.get().addWalk(4, 2, 0, 99, 99), 1);
            for (int number : Edges.outside(1, 99)) {
                e.rejects("both " + number, Edges.ARGUMENT, LIVELY, x -> x.addWalk(4, 2, 0, number, number));
                e.rejects("first " + number, Edges.ARGUMENT, LIVELY, x -> x.addWalk(4, 2, 0, number, 99));
                e.rejects("last " + number, Edges.ARGUMENT, LIVELY, x -> x.addWalk(4, 2, 0, 1, number));
            }
        });
        e.test(4, argument, "first is as great as last, or greater by 1", () -> {
            e.is("50 to 50", LIVELY.get().addWalk(4, 2, 0, 50, 50), 0);
            e.rejects("51 to 50", Edges.ARGUMENT, LIVELY, x -> x.addWalk(4, 2, 0, 51, 50));
            e.rejects("99 to 1", Edges.ARGUMENT, LIVELY, x -> x.addWalk(4, 2, 0, 99, 1));
        });
        e.test(4, argument, "listed ahead of the 10 walks", () -> {
            e.rejects("street 5", Edges.ARGUMENT, FULL, x -> x.addWalk(5, 2, 0, 1, 99));
            e.rejects("side 3", Edges.ARGUMENT, FULL, x -> x.addWalk(4, 3, 0, 1, 99));
            e.rejects("direction 2", Edges.ARGUMENT, FULL, x -> x.addWalk(4, 2, 2, 1, 99));
            e.rejects("2 to 1", Edges.ARGUMENT, FULL, x -> x.addWalk(4, 2, 0, 2, 1));
        });
        e.test(4, state, "the 10th is made, the 11th is not", () -> {
            e.is("walks", FULL.get().account(2), 10);
            e.rejects("the 11th", Edges.STATE, FULL, x -> x.addWalk(4, 2, 0, 1, 99));
        });
        e.test(4, state, "when one of the 10 is undone there is room for one", () -> {
            LetterRouter x = new LetterRouter();
            for (int i = 0; i < 10; i++) {
                x.addWalk(0, 2, 0, 1, 99);
            }
            x.undo();
            e.is("the 10th again", x.addWalk(0, 2, 0, 1, 99), 0);
            e.fails("the 11th", Edges.STATE, x, y -> y.addWalk(0, 2, 0, 1, 99));
        });
    }

    private void walkOf() {
        String returns = "Returns the walk, or -1 if none serves it.";
        e.test(5, "Returns the walk that serves a house.", "walk 0 and walk 9", () -> {
            LetterRouter x = new LetterRouter();
            x.addHouse(0, 1);
            x.addHouse(0, 2);
            x.addWalk(0, 1, 0, 1, 99);
            for (int i = 1; i < 9; i++) {
                x.addWalk(1, 2, 0, 1, 99);
            }
            x.addWalk(0, 2, 0, 1, 99);
            e.is("house 0", x.walkOf(0), 0);
            e.is("house 1", x.walkOf(1), 9);
        });
        e.test(5, returns, "no walk was made", () -> {
            LetterRouter x = new LetterRouter();
            x.addHouse(0, 1);
            e.is("none", x.walkOf(0), -1);
        });
        e.test(5, returns, "walks end just ahead of it and begin just behind it", () -> {
            LetterRouter x = new LetterRouter();
            x.addHouse(0, 50);
            x.addWalk(0, 2, 0, 1, 49);
            x.addWalk(0, 2, 0, 51, 99);
            x.addWalk(0, 1, 0, 50, 50);
            x.addWalk(1, 2, 0, 50, 50);
            e.is("none of four", x.walkOf(0), -1);
            x.addWalk(0, 2, 0, 50, 50);
            e.is("the fifth", x.walkOf(0), 4);
        });
        e.test(5, NO_HOUSE, "none is there", () ->
            e.rejects("house 0", Edges.INDEX, Scenes.EMPTY, x -> x.walkOf(0)));
        e.test(5, NO_HOUSE, "the first and the last one are there, those next to them are not", () -> {
            e.is("house 0", LIVELY.get().walkOf(0), 0);
            e.is("house 3", LIVELY.get().walkOf(3), -1);
            for (int house : Edges.outside(0, 3)) {
                e.rejects("house " + house, Edges.INDEX, LIVELY, x -> x.walkOf(house));
            }
            for (int house : Edges.outside(0, 15)) {
                e.rejects("house " + house, Edges.INDEX, FULL, x -> x.walkOf(house));
            }
        });
    }

    private void stop() {
        String returns = "Returns the house.";
        Supplier<LetterRouter> sixteen = () -> Scenes.row(16);
        e.test(6, "Returns a stop of a walk.", "the only one", () -> {
            LetterRouter x = Scenes.row(1);
            e.is("stop 0", x.stop(0, 0), 0);
            e.fails("stop 1", Edges.MISSING, x, y -> y.stop(0, 1));
        });
        e.test(6, "`index`: the index, from 0", "0 is the first, 15 the last of 16", () -> {
            e.is("index 0", sixteen.get().stop(0, 0), 0);
            e.is("index 15", sixteen.get().stop(0, 15), 15);
        });
        e.test(6, returns, "the first and the last of each direction", () -> {
            LetterRouter x = new LetterRouter();
            for (int number : new int[] {50, 99, 1, 2}) {
                x.addHouse(0, number);
                x.addHouse(1, number);
            }
            x.addWalk(0, 2, 0, 1, 99);
            x.addWalk(1, 2, 1, 1, 99);
            e.is("first of ascending", x.stop(0, 0), 4);
            e.is("last of ascending", x.stop(0, 3), 2);
            e.is("first of descending", x.stop(1, 0), 3);
            e.is("last of descending", x.stop(1, 3), 5);
        });
    }

    private void stopThrows() {
        String index = "Throws `IndexOutOfBoundsException` if there is no such walk";
        String missing = "Throws `NoSuchElementException` if there is no such stop";
        e.test(6, index, "none is there", () ->
            e.rejects("walk 0", Edges.INDEX, Scenes.EMPTY, x -> x.stop(0, 0)));
        e.test(6, index, "the only one is there, those next to it are not", () -> {
            e.is("walk 0", LIVELY.get().stop(0, 0), 2);
            for (int walk : Edges.outside(0, 0)) {
                e.rejects("walk " + walk, Edges.INDEX, LIVELY, x -> x.stop(walk, 0));
            }
        });
        e.test(6, index, "the 10th is there, the 11th is not", () -> {
            e.fails("walk 9 has none", Edges.MISSING, FULL.get(), x -> x.stop(9, 0));
            e.rejects("walk 10", Edges.INDEX, FULL, x -> x.stop(10, 0));
        });
        e.test(6, index, "listed ahead of the stop", () -> {
            e.rejects("stop -1", Edges.INDEX, LIVELY, x -> x.stop(1, -1));
            e.rejects("stop 3", Edges.INDEX, LIVELY, x -> x.stop(-1, 3));
        });
        e.test(6, missing, "of three stops", () -> {
            e.is("stop 2", LIVELY.get().stop(0, 2), 1);
            for (int stop : Edges.outside(0, 2)) {
                e.rejects("stop " + stop, Edges.MISSING, LIVELY, x -> x.stop(0, stop));
            }
        });
        e.test(6, missing, "of 16 stops", () -> {
            Supplier<LetterRouter> sixteen = () -> Scenes.row(16);
            e.rejects("stop 16", Edges.MISSING, sixteen, x -> x.stop(0, 16));
        });
        e.test(6, missing, "of a walk without stops", () -> {
            Supplier<LetterRouter> none = () -> {
                LetterRouter x = new LetterRouter();
                x.addWalk(0, 2, 0, 1, 99);
                return x;
            };
            e.rejects("stop 0", Edges.MISSING, none, x -> x.stop(0, 0));
            e.rejects("stop -1", Edges.MISSING, none, x -> x.stop(0, -1));
        });
    }

    private void stopIndex() {
        String returns = "Returns the index.";
        String missing = "Throws `NoSuchElementException` if no walk serves it";
        e.test(7, "Returns the index of a house among the stops of its walk.", "the only one", () ->
            e.is("house 0", Scenes.row(1).stopIndex(0), 0));
        e.test(7, returns, "the first and the last of 16, in each direction", () -> {
            LetterRouter x = Scenes.row(16);
            e.is("first of ascending", x.stopIndex(0), 0);
            e.is("last of ascending", x.stopIndex(15), 15);
            LetterRouter y = new LetterRouter();
            for (int i = 1; i <= 16; i++) {
                y.addHouse(0, i);
            }
            y.addWalk(0, 2, 1, 1, 99);
            e.is("last of descending", y.stopIndex(0), 15);
            e.is("first of descending", y.stopIndex(15), 0);
        });
        e.test(7, returns, "houses of other walks are not counted", () -> {
            LetterRouter x = new LetterRouter();
            for (int i = 1; i <= 16; i++) {
                x.addHouse(0, i);
            }
            x.addWalk(0, 0, 0, 1, 99);
            x.addWalk(0, 2, 0, 1, 99);
            e.is("house number 16", x.stopIndex(15), 7);
            e.is("house number 15", x.stopIndex(14), 7);
            e.is("house number 1", x.stopIndex(0), 0);
            e.is("house number 2", x.stopIndex(1), 0);
        });
        e.test(7, NO_HOUSE, "none is there", () ->
            e.rejects("house 0", Edges.INDEX, Scenes.EMPTY, x -> x.stopIndex(0)));
        e.test(7, NO_HOUSE, "the first and the last one are there, those next to them are not", () -> {
            e.is("house 0", LIVELY.get().stopIndex(0), 1);
            e.is("house 15", Scenes.row(16).stopIndex(15), 15);
            for (int house : Edges.outside(0, 3)) {
                e.rejects("house " + house, Edges.INDEX, LIVELY, x -> x.stopIndex(house));
            }
            for (int house : Edges.outside(0, 15)) {
                e.rejects("house " + house, Edges.INDEX, FULL, x -> x.stopIndex(house));
            }
        });
        e.test(7, missing, "walks end next to it", () -> {
            Supplier<LetterRouter> next = () -> {
                LetterRouter x = new LetterRouter();
                x.addHouse(0, 50);
                x.addWalk(0, 2, 0, 1, 49);
                x.addWalk(0, 2, 0, 51, 99);
                return x;
            };
            e.rejects("house 0", Edges.MISSING, next, x -> x.stopIndex(0));
            LetterRouter x = next.get();
            x.addWalk(0, 2, 0, 50, 50);
            e.is("with a walk", x.stopIndex(0), 0);
        });
        e.test(7, missing, "no walk was made", () -> e.rejects("house 0", Edges.MISSING, () -> {
            LetterRouter x = new LetterRouter();
            x.addHouse(0, 50);
            return x;
        }, x -> x.stopIndex(0)));
    }
}
