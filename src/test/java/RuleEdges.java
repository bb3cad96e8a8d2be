import java.util.function.Supplier;

/** The boundaries of promises 8 to 17: redirects, ways, holds, limits, absences and signing. */
final class RuleEdges {
    private static final String NO_PERSON = "Throws `IndexOutOfBoundsException` if there is no such person";
    private static final String ONE_OF_HOUSES = "Throws `IndexOutOfBoundsException` if one of the houses does not "
        + "exist";
    private static final String NO_DAY = "Throws `IllegalArgumentException` if there is no such day";
    private static final String DAYS = "Throws `IllegalArgumentException` if the days are not in ascending order "
        + "from 0 to 365";
    private static final String REASON_1 = "Throws `UnsupportedOperationException` if it is refused for reason 1; "
        + "the reason is kept for refusal";
    private static final Supplier<LetterRouter> LIVELY = Scenes.LIVELY;
    private static final Supplier<LetterRouter> FULL = Scenes.FULL;
    private static final Supplier<LetterRouter> EMPTY = Scenes.EMPTY;

    private final Edges e;

    private RuleEdges(Edges e) {
        this.e = e;
    }

    static void addTo(Edges e) {
        RuleEdges all = new RuleEdges(e);
        all.redirectPerson();
        all.redirectPersonThrows();
        all.redirectHouse();
        all.redirectHouseThrows();
        all.redirectHouseRefused();
        all.dropRedirect();
        all.dropRedirectThrows();
        all.way();
        all.wayThrows();
        all.hold();
        all.allow();
        all.allowThrows();
        all.setLimit();
        all.leave();
        all.signer();
        all.signerThrows();
        all.residents();
    }

    /** Days that are not in ascending order from 0 to 365, at their edges and far from them. */
    static int[][] wrongDays() {
        int low = Integer.MIN_VALUE;
        int high = Integer.MAX_VALUE;
        return new int[][] {{-1, -1}, {-1, 5}, {366, 366}, {0, 366}, {6, 5}, {1, 0}, {365, 364}, {365, 0}, {0, -1},
            {0, low}, {low, 5}, {low, high}, {0, high}, {high, high}, {high, 5}, {high, low}};
    }

    /** 16 houses, one person in each, 12 redirects of houses, from each house to the next one. */
    static LetterRouter longWay() {
        LetterRouter x = Scenes.row(16);
        for (int i = 0; i < 12; i++) {
            x.redirectHouse(i, i + 1, 0, 365);
        }
        return x;
    }

    private void redirectPerson() {
        e.test(8, "Redirects the letters of a person.", "on the first and the last of all days", () -> {
            LetterRouter x = Scenes.row(3);
            x.redirectPerson(0, 1, 0, 0);
            x.redirectPerson(0, 2, 365, 365);
            e.is("day 0", x.way(0, 0, 0), 1);
            e.is("day 1", x.way(0, 1, 0), 0);
            e.is("day 364", x.way(0, 364, 0), 0);
            e.is("day 365", x.way(0, 365, 0), 2);
        });
        e.test(8, "Redirects the letters of a person.",
            "of the first person, and of the last one to the last house", () -> {
            LetterRouter x = FULL.get();
            x.dropRedirect(0);
            x.dropRedirect(0);
            x.redirectPerson(0, 15, 300, 300);
            x.redirectPerson(19, 15, 300, 300);
            e.is("person 0", x.way(0, 300, 0), 15);
            e.is("person 19", x.way(19, 300, 0), 15);
        });
        e.test(8, "Returns the number of the redirect.", "from 0 to 11", () -> {
            LetterRouter x = Scenes.row(2);
            for (int i = 0; i < 12; i++) {
                e.is("redirect " + i, x.redirectPerson(0, 1, 0, 0), i);
            }
        });
        e.test(8, "Returns the number of the redirect.", "counted together with those of houses", () -> {
            LetterRouter x = Scenes.row(2);
            x.redirectHouse(0, 1, 0, 0);
            e.is("second", x.redirectPerson(0, 1, 0, 0), 1);
            x.dropRedirect(0);
            e.is("second again", x.redirectPerson(0, 1, 0, 0), 1);
        });
    }

    private void redirectPersonThrows() {
        String index = "Throws `IndexOutOfBoundsException` if there is no such person or house";
        e.test(8, index, "nobody is there", () ->
            e.rejects("person 0", Edges.INDEX, EMPTY, x -> x.redirectPerson(0, 0, 0, 0)));
        e.test(8, index, "the first and the last person are there, those next to them are not", () -> {
            e.is("person 0", LIVELY.get().redirectPerson(0, 0, 0, 0), 5);
            e.is("person 3", LIVELY.get().redirectPerson(3, 0, 0, 0), 5);
            for (int person : Edges.outside(0, 3)) {
                e.rejects("person " + person, Edges.INDEX, LIVELY, x -> x.redirectPerson(person, 0, 0, 0));
            }
        });
        e.test(8, index, "the first and the last house are there, those next to them are not", () -> {
            e.is("house 0", LIVELY.get().redirectPerson(1, 0, 0, 0), 5);
            e.is("house 3", LIVELY.get().redirectPerson(1, 3, 0, 0), 5);
            for (int house : Edges.outside(0, 3)) {
                e.rejects("house " + house, Edges.INDEX, LIVELY, x -> x.redirectPerson(0, house, 0, 0));
            }
        });
        e.test(8, index, "listed ahead of the days and of reason 1", () -> {
            e.rejects("days", Edges.INDEX, LIVELY, x -> x.redirectPerson(4, 0, 1, 0));
            e.rejects("days and house", Edges.INDEX, LIVELY, x -> x.redirectPerson(0, 4, -1, 0));
            e.rejects("reason 1", Edges.INDEX, FULL, x -> x.redirectPerson(20, 0, 0, 0));
            e.rejects("reason 1 and house", Edges.INDEX, FULL, x -> x.redirectPerson(0, 16, 0, 0));
        });
        e.test(8, DAYS, "0 to 365 are, and so is a day by itself", () -> {
            e.is("all", LIVELY.get().redirectPerson(0, 0, 0, 365), 5);
            e.is("the first", LIVELY.get().redirectPerson(0, 0, 0, 0), 5);
            e.is("the last", LIVELY.get().redirectPerson(0, 0, 365, 365), 5);
            e.is("two", LIVELY.get().redirectPerson(0, 0, 5, 6), 5);
        });
        e.test(8, DAYS, "one of them beyond, or both the other way round", () -> {
            for (int[] d : wrongDays()) {
                e.rejects(d[0] + " to " + d[1], Edges.ARGUMENT, LIVELY, x -> x.redirectPerson(0, 1, d[0], d[1]));
            }
        });
        e.test(8, DAYS, "listed ahead of reason 1", () ->
            e.rejects("1 to 0", Edges.ARGUMENT, FULL, x -> x.redirectPerson(0, 0, 1, 0)));
        e.test(8, REASON_1, "the 12th is kept, the 13th is refused", () -> {
            e.is("redirects", FULL.get().account(3), 12);
            e.refuses("the 13th", 1, FULL, x -> x.redirectPerson(0, 0, 0, 0));
        });
        e.test(8, REASON_1, "when one of the 12 is dropped there is room for one", () -> {
            LetterRouter x = FULL.get();
            x.dropRedirect(11);
            e.is("the 12th again", x.redirectPerson(0, 0, 0, 0), 11);
            e.fails("the 13th", Edges.REFUSED, x, y -> y.redirectPerson(0, 0, 0, 0));
        });
        e.test(8, REASON_1, "never for reason 2, whatever house it leads to", () -> {
            for (int house = 0; house < 4; house++) {
                LetterRouter x = LIVELY.get();
                e.is("to house " + house, x.redirectPerson(0, house, 0, 365), 5);
                e.is("the reason stays", x.refusal(), 3);
            }
        });
    }

    private void redirectHouse() {
        e.test(9, "Redirects the letters of a house.", "on the first and the last of all days", () -> {
            LetterRouter x = Scenes.row(3);
            x.redirectHouse(0, 1, 0, 0);
            x.redirectHouse(0, 2, 365, 365);
            e.is("day 0", x.way(0, 0, -1), 1);
            e.is("day 1", x.way(0, 1, -1), 0);
            e.is("day 364", x.way(0, 364, -1), 0);
            e.is("day 365", x.way(0, 365, -1), 2);
        });
        e.test(9, "Redirects the letters of a house.",
            "of the last house to the first one and of the first to the last", () -> {
            LetterRouter x = Scenes.row(16);
            x.redirectHouse(15, 0, 0, 5);
            x.redirectHouse(0, 15, 6, 365);
            e.is("from the last", x.way(15, 5, -1), 0);
            e.is("from the first", x.way(0, 6, -1), 15);
        });
        e.test(9, "Returns the number of the redirect.", "from 0 to 11", () -> {
            LetterRouter x = Scenes.row(2);
            for (int i = 0; i < 12; i++) {
                e.is("redirect " + i, x.redirectHouse(0, 1, 0, 0), i);
            }
        });
        e.test(9, "Returns the number of the redirect.", "one that is refused uses none up", () -> {
            LetterRouter x = Scenes.row(2);
            e.is("first", x.redirectHouse(0, 1, 0, 0), 0);
            e.fails("refused", Edges.REFUSED, x, y -> y.redirectHouse(1, 0, 0, 0));
            e.is("second", x.redirectHouse(0, 1, 0, 0), 1);
        });
    }

    private void redirectHouseThrows() {
        e.test(9, ONE_OF_HOUSES, "none is there", () ->
            e.rejects("house 0", Edges.INDEX, EMPTY, x -> x.redirectHouse(0, 0, 0, 0)));
        e.test(9, ONE_OF_HOUSES, "the first and the last one are there, those next to them are not", () -> {
            e.is("0 to 3", LIVELY.get().redirectHouse(0, 3, 0, 0), 5);
            e.is("3 to 0", LIVELY.get().redirectHouse(3, 0, 0, 0), 5);
            for (int house : Edges.outside(0, 3)) {
                e.rejects("from " + house, Edges.INDEX, LIVELY, x -> x.redirectHouse(house, 0, 0, 0));
                e.rejects("to " + house, Edges.INDEX, LIVELY, x -> x.redirectHouse(0, house, 0, 0));
                e.rejects("both " + house, Edges.INDEX, LIVELY, x -> x.redirectHouse(house, house, 0, 0));
            }
        });
        e.test(9, ONE_OF_HOUSES, "listed ahead of the days and of the reasons", () -> {
            e.rejects("days", Edges.INDEX, LIVELY, x -> x.redirectHouse(4, 0, 1, 0));
            e.rejects("days and to", Edges.INDEX, LIVELY, x -> x.redirectHouse(0, 4, 366, 366));
            e.rejects("reason 1", Edges.INDEX, FULL, x -> x.redirectHouse(16, 0, 0, 0));
            e.rejects("reason 1 and to", Edges.INDEX, FULL, x -> x.redirectHouse(0, 16, 0, 0));
        });
        e.test(9, DAYS, "0 to 365 are, and so is a day by itself", () -> {
            e.is("all", LIVELY.get().redirectHouse(2, 3, 0, 365), 5);
            e.is("the first", LIVELY.get().redirectHouse(3, 0, 0, 0), 5);
            e.is("the last", LIVELY.get().redirectHouse(3, 0, 365, 365), 5);
            e.is("two", LIVELY.get().redirectHouse(3, 0, 5, 6), 5);
        });
        e.test(9, DAYS, "one of them beyond, or both the other way round", () -> {
            for (int[] d : wrongDays()) {
                e.rejects(d[0] + " to " + d[1], Edges.ARGUMENT, LIVELY, x -> x.redirectHouse(0, 3, d[0], d[1]));
            }
        });
        e.test(9, DAYS, "listed ahead of the reasons", () -> {
            e.rejects("1 to 0", Edges.ARGUMENT, FULL, x -> x.redirectHouse(0, 1, 1, 0));
            e.rejects("to itself", Edges.ARGUMENT, LIVELY, x -> x.redirectHouse(0, 0, 1, 0));
        });
    }

    private void redirectHouseRefused() {
        String refused = "Throws `UnsupportedOperationException` if it is refused for reason 1 or 2; the reason is "
            + "kept for refusal";
        e.test(9, refused, "the 12th is kept, the 13th is refused for reason 1", () ->
            e.refuses("the 13th", 1, FULL, x -> x.redirectHouse(3, 5, 0, 0)));
        e.test(9, refused, "reason 1 ahead of reason 2", () ->
            e.refuses("the 13th, to itself", 1, FULL, x -> x.redirectHouse(5, 5, 0, 0)));
        e.test(9, refused, "when one of the 12 is dropped there is room for one", () -> {
            LetterRouter x = FULL.get();
            x.dropRedirect(0);
            e.is("the 12th again", x.redirectHouse(8, 9, 0, 0), 11);
            e.fails("the 13th", Edges.REFUSED, x, y -> y.redirectHouse(8, 9, 0, 0));
        });
        e.test(9, refused, "round on the first day of others, but not on the day ahead", () -> {
            e.is("up to day 39", LIVELY.get().redirectHouse(0, 1, 0, 39), 5);
            e.refuses("up to day 40", 2, LIVELY, x -> x.redirectHouse(0, 1, 0, 40));
            e.refuses("day 40", 2, LIVELY, x -> x.redirectHouse(0, 1, 40, 40));
        });
        e.test(9, refused, "round on the last day of others, but not on the day behind", () -> {
            e.is("from day 51", LIVELY.get().redirectHouse(0, 1, 51, 365), 5);
            e.refuses("from day 50", 2, LIVELY, x -> x.redirectHouse(0, 1, 50, 365));
            e.refuses("day 50", 2, LIVELY, x -> x.redirectHouse(0, 1, 50, 50));
        });
        e.test(9, refused, "round on the days next to a cover, but not under it", () -> {
            e.is("day 45", LIVELY.get().redirectHouse(0, 1, 45, 45), 5);
            e.refuses("from day 44", 2, LIVELY, x -> x.redirectHouse(0, 1, 44, 45));
            e.refuses("to day 46", 2, LIVELY, x -> x.redirectHouse(0, 1, 45, 46));
        });
        e.test(9, refused, "at the 12th redirect through 12 houses", () -> {
            Supplier<LetterRouter> eleven = () -> {
                LetterRouter x = longWay();
                x.dropRedirect(11);
                return x;
            };
            e.refuses("from house 11 to house 0", 2, eleven, x -> x.redirectHouse(11, 0, 365, 365));
            e.is("from house 11 to house 12", eleven.get().redirectHouse(11, 12, 365, 365), 11);
        });
    }

    private void dropRedirect() {
        String returns = "Returns the number of those that remain.";
        e.test(10, "Drops a redirect.", "the first and the last of three", () -> {
            LetterRouter x = Scenes.row(4);
            x.redirectHouse(0, 1, 0, 9);
            x.redirectHouse(0, 2, 0, 9);
            x.redirectHouse(0, 3, 0, 9);
            x.dropRedirect(2);
            e.is("without the last", x.way(0, 0, -1), 2);
            x.dropRedirect(0);
            e.is("without the first", x.way(0, 0, -1), 2);
            x.dropRedirect(0);
            e.is("without any", x.way(0, 0, -1), 0);
        });
        e.test(10, returns, "11 of 12 down to 0 of 1", () -> {
            LetterRouter x = longWay();
            for (int left = 11; left >= 0; left--) {
                e.is("left", x.dropRedirect(left / 2), left);
                e.is("account", x.account(3), left);
            }
        });
    }

    private void dropRedirectThrows() {
        String index = "Throws `IndexOutOfBoundsException` if there is no such redirect";
        String refused = "Throws `UnsupportedOperationException` if it is refused for reason 2; the reason is kept "
            + "for refusal";
        e.test(10, index, "none is there", () ->
            e.rejects("redirect 0", Edges.INDEX, EMPTY, x -> x.dropRedirect(0)));
        e.test(10, index, "the first and the last one are there, those next to them are not", () -> {
            e.is("redirect 0", LIVELY.get().dropRedirect(0), 4);
            e.is("redirect 4", LIVELY.get().dropRedirect(4), 4);
            for (int redirect : Edges.outside(0, 4)) {
                e.rejects("redirect " + redirect, Edges.INDEX, LIVELY, x -> x.dropRedirect(redirect));
            }
        });
        e.test(10, index, "the 12th is there, the 13th is not", () -> {
            e.is("redirect 11", FULL.get().dropRedirect(11), 11);
            e.rejects("redirect 12", Edges.INDEX, FULL, x -> x.dropRedirect(12));
        });
        e.test(10, index, "the last one once it was dropped", () -> {
            LetterRouter x = LIVELY.get();
            x.dropRedirect(4);
            e.fails("redirect 4", Edges.INDEX, x, y -> y.dropRedirect(4));
        });
        e.test(10, refused, "the only one that covers, on a single day", () ->
            e.refuses("redirect 3", 2, LIVELY, x -> x.dropRedirect(3)));
        e.test(10, refused, "also if 12 are kept", () ->
            e.refuses("redirect 3", 2, FULL, x -> x.dropRedirect(3)));
        e.test(10, refused, "on the first and on the last of all days", () -> {
            for (int day : new int[] {0, 365}) {
                Supplier<LetterRouter> covered = () -> {
                    LetterRouter x = Scenes.row(3);
                    x.redirectHouse(0, 1, day, day);
                    x.redirectHouse(0, 2, day, day);
                    x.redirectHouse(1, 0, day, day);
                    return x;
                };
                e.refuses("the cover on day " + day, 2, covered, x -> x.dropRedirect(1));
                e.is("the covered one on day " + day, covered.get().dropRedirect(0), 2);
                e.is("the next one on day " + day, covered.get().dropRedirect(2), 2);
            }
        });
        e.test(10, refused, "not if one of two covers stays", () -> {
            LetterRouter x = LIVELY.get();
            x.redirectHouse(1, 3, 45, 45);
            e.is("the first cover", x.dropRedirect(3), 5);
            e.fails("the second", Edges.REFUSED, x, y -> y.dropRedirect(4));
        });
        e.test(10, refused, "never one of a person", () -> {
            LetterRouter x = LIVELY.get();
            e.is("redirect 0", x.dropRedirect(0), 4);
            e.is("the reason stays", x.refusal(), 3);
        });
    }

    private void way() {
        String index = "`index`: the index on the way, from 0, or -1 for the end";
        e.test(11, "Returns a house on the way of a person on a day.", "the first day and the last one", () -> {
            LetterRouter x = Scenes.row(2);
            x.redirectPerson(0, 1, 1, 364);
            e.is("day 0", x.way(0, 0, 0), 0);
            e.is("day 1", x.way(0, 1, 0), 1);
            e.is("day 364", x.way(0, 364, 0), 1);
            e.is("day 365", x.way(0, 365, 0), 0);
        });
        e.test(11, index, "of a way of one house", () -> {
            LetterRouter x = Scenes.row(3);
            e.is("index 0", x.way(2, 0, 0), 2);
            e.is("index -1", x.way(2, 0, -1), 2);
        });
        e.test(11, index, "of the longest way, through 13 houses", () -> {
            LetterRouter x = longWay();
            for (int i = 0; i <= 12; i++) {
                e.is("index " + i, x.way(0, 365, i), i);
            }
            e.is("index -1", x.way(0, 365, -1), 12);
        });
        e.test(11, "Returns the house.", "where the person lives first, or else where the redirect leads", () -> {
            LetterRouter x = longWay();
            x.dropRedirect(11);
            e.is("person 15 at home", x.way(15, 3, 0), 15);
            x.redirectPerson(15, 0, 3, 3);
            e.is("first", x.way(15, 3, 0), 0);
            e.is("last", x.way(15, 3, 11), 11);
            e.is("end", x.way(15, 3, -1), 11);
        });
    }

    private void wayThrows() {
        String argument = "Throws `IllegalArgumentException` if there is no such day or index is below -1";
        String missing = "Throws `NoSuchElementException` if the way is not so long";
        e.test(11, NO_PERSON, "nobody is there", () ->
            e.rejects("person 0", Edges.INDEX, EMPTY, x -> x.way(0, 0, 0)));
        e.test(11, NO_PERSON, "the first and the last one are there, those next to them are not", () -> {
            e.is("person 0", LIVELY.get().way(0, 0, 0), 0);
            e.is("person 3", LIVELY.get().way(3, 0, 0), 3);
            for (int person : Edges.outside(0, 3)) {
                e.rejects("person " + person, Edges.INDEX, LIVELY, x -> x.way(person, 0, 0));
            }
            for (int person : Edges.outside(0, 19)) {
                e.rejects("person " + person, Edges.INDEX, FULL, x -> x.way(person, 0, 0));
            }
        });
        e.test(11, NO_PERSON, "listed ahead of the day, the index and the length", () -> {
            e.rejects("day", Edges.INDEX, LIVELY, x -> x.way(4, 366, 0));
            e.rejects("index", Edges.INDEX, LIVELY, x -> x.way(4, 0, -2));
            e.rejects("length", Edges.INDEX, LIVELY, x -> x.way(-1, 0, 1));
        });
        e.test(11, argument, "days 0 and 365 are there, -1 and 366 are not", () -> {
            e.is("day 0", LIVELY.get().way(1, 0, -1), 1);
            e.is("day 365", LIVELY.get().way(1, 365, -1), 2);
            for (int day : Edges.outside(0, 365)) {
                e.rejects("day " + day, Edges.ARGUMENT, LIVELY, x -> x.way(1, day, -1));
            }
        });
        e.test(11, argument, "index -1 is possible, -2 is not", () -> {
            e.is("index -1", LIVELY.get().way(0, 0, -1), 0);
            e.rejects("index -2", Edges.ARGUMENT, LIVELY, x -> x.way(0, 0, -2));
            e.rejects("the least index", Edges.ARGUMENT, LIVELY, x -> x.way(0, 0, Integer.MIN_VALUE));
        });
        e.test(11, argument, "listed ahead of the length", () -> {
            e.rejects("day -1", Edges.ARGUMENT, LIVELY, x -> x.way(0, -1, 9));
            e.rejects("day 366", Edges.ARGUMENT, LIVELY, x -> x.way(0, 366, 9));
        });
        e.test(11, missing, "of a way of one house", () ->
            e.rejects("index 1", Edges.MISSING, LIVELY, x -> x.way(3, 0, 1)));
        e.test(11, missing, "of a way of two houses", () -> {
            e.is("index 1", LIVELY.get().way(1, 5, 1), 2);
            e.rejects("index 2", Edges.MISSING, LIVELY, x -> x.way(1, 5, 2));
        });
        e.test(11, missing, "of the longest way", () -> {
            for (int index : new int[] {13, 14, 15, 16, 17, Integer.MAX_VALUE}) {
                e.rejects("index " + index, Edges.MISSING, RuleEdges::longWay, x -> x.way(0, 0, index));
            }
        });
    }

    private void hold() {
        String returns = "Returns the last day before, or -1.";
        String argument = "Throws `IllegalArgumentException` if last is not from -1 to 365";
        e.test(12, "Sets a hold.", "of the first and the last person, and of no other", () -> {
            LetterRouter x = Scenes.row(3);
            for (int i = 0; i < 3; i++) {
                x.addLetter(i, 1, false);
            }
            x.hold(0, 0);
            x.hold(2, 0);
            e.is("delivered on day 0", x.pass(1), 1);
            e.is("delivered on day 1", x.pass(1), 2);
        });
        e.test(12, "`last`: the last day, or -1 to end it", "-1 ends a hold that lasts", () -> {
            LetterRouter x = Scenes.row(1);
            x.addLetter(0, 1, false);
            x.hold(0, 365);
            x.hold(0, -1);
            e.is("delivered", x.pass(1), 1);
        });
        e.test(12, "`last`: the last day, or -1 to end it", "-1 without a hold, and 0 is a day", () -> {
            LetterRouter x = Scenes.row(1);
            e.is("ends none", x.hold(0, -1), -1);
            e.is("still none", x.hold(0, 0), -1);
            e.is("a hold to day 0", x.hold(0, -1), 0);
        });
        e.test(12, returns, "none before, 0 and 365 before, and -1 when it was ended", () -> {
            LetterRouter x = Scenes.row(1);
            e.is("none", x.hold(0, 0), -1);
            e.is("0", x.hold(0, 365), 0);
            e.is("365", x.hold(0, -1), 365);
            e.is("ended", x.hold(0, 3), -1);
        });
        e.test(12, returns, "also one that is over", () -> {
            LetterRouter x = Scenes.row(1);
            x.hold(0, 3);
            x.pass(10);
            e.is("over", x.hold(0, 20), 3);
        });
        e.test(12, NO_PERSON, "nobody is there", () -> e.rejects("person 0", Edges.INDEX, EMPTY, x -> x.hold(0, 0)));
        e.test(12, NO_PERSON, "the first and the last one are there, those next to them are not", () -> {
            e.is("person 0", LIVELY.get().hold(0, 1), -1);
            e.is("person 3", LIVELY.get().hold(3, 1), 5);
            for (int person : Edges.outside(0, 3)) {
                e.rejects("person " + person, Edges.INDEX, LIVELY, x -> x.hold(person, 1));
            }
            for (int person : Edges.outside(0, 19)) {
                e.rejects("person " + person, Edges.INDEX, FULL, x -> x.hold(person, 1));
            }
        });
        e.test(12, NO_PERSON, "listed ahead of the day", () ->
            e.rejects("day 366", Edges.INDEX, LIVELY, x -> x.hold(4, 366)));
        e.test(12, argument, "-1 and 365 are possible, -2 and 366 are not", () -> {
            e.is("-1", LIVELY.get().hold(2, -1), 20);
            e.is("365", LIVELY.get().hold(2, 365), 20);
            for (int last : Edges.outside(-1, 365)) {
                e.rejects("day " + last, Edges.ARGUMENT, LIVELY, x -> x.hold(2, last));
            }
        });
        e.test(12, argument, "a day that is over is possible", () -> {
            LetterRouter x = Scenes.row(1);
            x.pass(10);
            e.is("day 9", x.hold(0, 9), -1);
            x.addLetter(0, 1, false);
            e.is("holds nothing", x.pass(1), 1);
        });
    }

    private void allow() {
        String returns = "Returns whether it was.";
        String allows = "Lets a person allow another one to sign, or no longer.";
        e.test(13, allows, "the first one the last one and the other way round", () -> {
            LetterRouter x = Scenes.twentyAtHome();
            x.allow(0, 19, true);
            x.leave(0, 0, 0);
            e.is("19 for 0", x.signer(0, 0), 19);
            x.allow(0, 19, false);
            e.fails("no longer", Edges.MISSING, x, y -> y.signer(0, 0));
            x.allow(19, 0, true);
            x.leave(19, 1, 1);
            e.is("0 for 19", x.signer(19, 1), 0);
        });
        e.test(13, returns, "not at first, then, and no longer", () -> {
            LetterRouter x = Scenes.row(2);
            e.is("at first", x.allow(0, 1, true), false);
            e.is("then", x.allow(0, 1, true), true);
            e.is("still", x.allow(0, 1, false), true);
            e.is("no longer", x.allow(0, 1, false), false);
        });
        e.test(13, returns, "all 19 others, each by itself", () -> {
            LetterRouter x = Scenes.twentyAtHome();
            for (int other = 0; other < 20; other++) {
                if (other != 7) {
                    e.is("at first " + other, x.allow(7, other, true), false);
                }
            }
            for (int other = 0; other < 20; other++) {
                if (other != 7) {
                    e.is("then " + other, x.allow(7, other, false), true);
                    e.is("not the other way " + other, x.allow(other, 7, false), false);
                }
            }
        });
    }

    private void allowThrows() {
        String index = "Throws `IndexOutOfBoundsException` if one of the persons does not exist";
        String argument = "Throws `IllegalArgumentException` if both are the same";
        e.test(13, index, "nobody is there", () ->
            e.rejects("persons 0 and 1", Edges.INDEX, EMPTY, x -> x.allow(0, 1, true)));
        e.test(13, index, "the first and the last one are there, those next to them are not", () -> {
            e.is("0 and 3", LIVELY.get().allow(0, 3, true), false);
            e.is("3 and 0", LIVELY.get().allow(3, 0, true), false);
            for (int person : Edges.outside(0, 3)) {
                e.rejects("person " + person, Edges.INDEX, LIVELY, x -> x.allow(person, 0, true));
                e.rejects("other " + person, Edges.INDEX, LIVELY, x -> x.allow(0, person, true));
                e.rejects("no longer " + person, Edges.INDEX, LIVELY, x -> x.allow(0, person, false));
            }
            for (int person : Edges.outside(0, 19)) {
                e.rejects("person " + person, Edges.INDEX, FULL, x -> x.allow(person, 0, true));
                e.rejects("other " + person, Edges.INDEX, FULL, x -> x.allow(0, person, true));
            }
        });
        e.test(13, index, "listed ahead of both the same", () -> {
            for (int person : Edges.outside(0, 3)) {
                e.rejects("both " + person, Edges.INDEX, LIVELY, x -> x.allow(person, person, true));
            }
        });
        e.test(13, argument, "the first one twice and the last one twice, also if it is allowed no longer", () -> {
            for (int person : new int[] {0, 3}) {
                e.rejects("both " + person, Edges.ARGUMENT, LIVELY, x -> x.allow(person, person, true));
                e.rejects("both " + person, Edges.ARGUMENT, LIVELY, x -> x.allow(person, person, false));
            }
        });
    }

    private void setLimit() {
        String returns = "Returns the limit before, 9 at first.";
        String argument = "Throws `IllegalArgumentException` if limit is out of range";
        e.test(14, "Sets the limit of weight of a person.", "of the first and the last person, and of no other", () -> {
            LetterRouter x = Scenes.row(3);
            x.setLimit(0, 1);
            x.setLimit(2, 1);
            for (int i = 0; i < 3; i++) {
                x.addLetter(i, 2, false);
            }
            e.is("delivered", x.pass(1), 1);
            e.is("that of person 1", x.letter(1, 4), 1);
        });
        e.test(14, "`limit`: the limit, 0 to 9", "0 refuses the lightest, 9 not even the heaviest", () -> {
            LetterRouter x = Scenes.row(2);
            x.setLimit(0, 0);
            x.setLimit(1, 0);
            x.setLimit(1, 9);
            x.addLetter(0, 1, false);
            x.addLetter(1, 9, false);
            e.is("delivered", x.pass(1), 1);
            e.is("reason", x.letter(0, 6), 2);
            e.is("heaviest", x.letter(1, 4), 1);
        });
        e.test(14, returns, "9 at first, then 0, then 9", () -> {
            LetterRouter x = Scenes.row(1);
            e.is("at first", x.setLimit(0, 0), 9);
            e.is("then", x.setLimit(0, 9), 0);
            e.is("at last", x.setLimit(0, 9), 9);
        });
        e.test(14, NO_PERSON, "nobody is there", () ->
            e.rejects("person 0", Edges.INDEX, EMPTY, x -> x.setLimit(0, 1)));
        e.test(14, NO_PERSON, "the first and the last one are there, those next to them are not", () -> {
            e.is("person 0", LIVELY.get().setLimit(0, 1), 9);
            e.is("person 3", LIVELY.get().setLimit(3, 1), 9);
            for (int person : Edges.outside(0, 3)) {
                e.rejects("person " + person, Edges.INDEX, LIVELY, x -> x.setLimit(person, 1));
            }
            for (int person : Edges.outside(0, 19)) {
                e.rejects("person " + person, Edges.INDEX, FULL, x -> x.setLimit(person, 1));
            }
        });
        e.test(14, NO_PERSON, "listed ahead of the limit", () ->
            e.rejects("limit 10", Edges.INDEX, LIVELY, x -> x.setLimit(4, 10)));
        e.test(14, argument, "0 and 9 are in range, -1 and 10 are not", () -> {
            e.is("0", LIVELY.get().setLimit(1, 0), 4);
            e.is("9", LIVELY.get().setLimit(1, 9), 4);
            for (int limit : Edges.outside(0, 9)) {
                e.rejects("limit " + limit, Edges.ARGUMENT, LIVELY, x -> x.setLimit(1, limit));
            }
        });
    }

    private void leave() {
        String returns = "Returns the number of absences that are kept.";
        e.test(15, "Makes a person absent.", "the first and the last person, and no other", () -> {
            LetterRouter x = Scenes.row(3);
            x.leave(0, 7, 7);
            x.leave(2, 7, 7);
            e.fails("person 0", Edges.MISSING, x, y -> y.signer(0, 7));
            e.is("person 1", x.signer(1, 7), 1);
            e.fails("person 2", Edges.MISSING, x, y -> y.signer(2, 7));
        });
        e.test(15, returns, "1 to 20, and 20 ever after", () -> {
            LetterRouter x = Scenes.row(2);
            for (int i = 1; i <= 20; i++) {
                e.is("absence " + i, x.leave(i % 2, i, i), i);
            }
            for (int i = 21; i <= 45; i++) {
                e.is("absence " + i, x.leave(i % 2, i, i), 20);
            }
        });
        e.test(15, returns, "those that are over count, and the same one twice is two", () -> {
            LetterRouter x = Scenes.row(1);
            x.pass(10);
            e.is("over", x.leave(0, 0, 1), 1);
            e.is("the same", x.leave(0, 0, 1), 2);
        });
        e.test(15, NO_PERSON, "nobody is there", () ->
            e.rejects("person 0", Edges.INDEX, EMPTY, x -> x.leave(0, 0, 0)));
        e.test(15, NO_PERSON, "the first and the last one are there, those next to them are not", () -> {
            e.is("person 0", LIVELY.get().leave(0, 0, 0), 4);
            e.is("person 3", LIVELY.get().leave(3, 0, 0), 4);
            for (int person : Edges.outside(0, 3)) {
                e.rejects("person " + person, Edges.INDEX, LIVELY, x -> x.leave(person, 0, 0));
            }
            for (int person : Edges.outside(0, 19)) {
                e.rejects("person " + person, Edges.INDEX, FULL, x -> x.leave(person, 0, 0));
            }
        });
        e.test(15, NO_PERSON, "listed ahead of the days", () ->
            e.rejects("1 to 0", Edges.INDEX, LIVELY, x -> x.leave(4, 1, 0)));
        e.test(15, DAYS, "0 to 365 are, and so is a day by itself", () -> {
            e.is("all", LIVELY.get().leave(0, 0, 365), 4);
            e.is("the first", LIVELY.get().leave(0, 0, 0), 4);
            e.is("the last", LIVELY.get().leave(0, 365, 365), 4);
            e.is("two", LIVELY.get().leave(0, 5, 6), 4);
        });
        e.test(15, DAYS, "one of them beyond, or both the other way round", () -> {
            for (int[] d : wrongDays()) {
                e.rejects(d[0] + " to " + d[1], Edges.ARGUMENT, LIVELY, x -> x.leave(0, d[0], d[1]));
            }
        });
        e.test(15, DAYS, "no absence goes for one that is not made", () ->
            e.rejects("1 to 0", Edges.ARGUMENT, FULL, x -> x.leave(0, 1, 0)));
    }

    private void signer() {
        String returns = "Returns the person who would.";
        e.test(16, "Returns who would sign a registered letter of a person on a day.",
            "the first and the last of all days", () -> {
            LetterRouter x = new LetterRouter();
            x.addHouse(0, 1);
            x.addPerson(0);
            x.addPerson(0);
            x.allow(1, 0, true);
            x.leave(1, 0, 0);
            x.leave(1, 365, 365);
            e.is("day 0", x.signer(1, 0), 0);
            e.is("day 1", x.signer(1, 1), 1);
            e.is("day 364", x.signer(1, 364), 1);
            e.is("day 365", x.signer(1, 365), 0);
        });
        e.test(16, returns, "person 0 for person 19 and person 19 for person 0", () -> {
            LetterRouter x = Scenes.twentyAtHome();
            x.leave(0, 1, 1);
            x.leave(19, 2, 2);
            x.allow(0, 19, true);
            x.allow(19, 0, true);
            e.is("for person 0", x.signer(0, 1), 19);
            e.is("for person 19", x.signer(19, 2), 0);
            e.is("person 0", x.signer(0, 2), 0);
            e.is("person 19", x.signer(19, 1), 19);
        });
    }

    private void signerThrows() {
        String missing = "Throws `NoSuchElementException` if nobody would";
        e.test(16, NO_PERSON, "nobody is there", () ->
            e.rejects("person 0", Edges.INDEX, EMPTY, x -> x.signer(0, 0)));
        e.test(16, NO_PERSON, "the first and the last one are there, those next to them are not", () -> {
            e.is("person 0", LIVELY.get().signer(0, 5), 0);
            e.is("person 3", LIVELY.get().signer(3, 0), 3);
            for (int person : Edges.outside(0, 3)) {
                e.rejects("person " + person, Edges.INDEX, LIVELY, x -> x.signer(person, 0));
            }
            for (int person : Edges.outside(0, 19)) {
                e.rejects("person " + person, Edges.INDEX, FULL, x -> x.signer(person, 0));
            }
        });
        e.test(16, NO_PERSON, "listed ahead of the day", () ->
            e.rejects("day 366", Edges.INDEX, LIVELY, x -> x.signer(4, 366)));
        e.test(16, NO_DAY, "days 0 and 365 are there, -1 and 366 are not", () -> {
            e.is("day 0", LIVELY.get().signer(1, 0), 1);
            e.is("day 365", LIVELY.get().signer(1, 365), 1);
            for (int day : Edges.outside(0, 365)) {
                e.rejects("day " + day, Edges.ARGUMENT, LIVELY, x -> x.signer(1, day));
            }
        });
        e.test(16, NO_DAY, "listed ahead of nobody", () -> {
            Supplier<LetterRouter> nobody = () -> {
                LetterRouter x = Scenes.row(1);
                x.leave(0, 0, 365);
                return x;
            };
            e.rejects("day 366", Edges.ARGUMENT, nobody, x -> x.signer(0, 366));
            e.rejects("day -1", Edges.ARGUMENT, nobody, x -> x.signer(0, -1));
            e.rejects("day 365", Edges.MISSING, nobody, x -> x.signer(0, 365));
        });
        e.test(16, missing, "on the first and on the last day of an absence, not next to them", () -> {
            Supplier<LetterRouter> away = () -> {
                LetterRouter x = Scenes.row(2);
                x.leave(0, 10, 12);
                return x;
            };
            e.is("day 9", away.get().signer(0, 9), 0);
            e.rejects("day 10", Edges.MISSING, away, x -> x.signer(0, 10));
            e.rejects("day 12", Edges.MISSING, away, x -> x.signer(0, 12));
            e.is("day 13", away.get().signer(0, 13), 0);
        });
        e.test(16, missing, "the one who is allowed is absent, too, or lives elsewhere", () -> {
            e.rejects("lives elsewhere", Edges.MISSING, LIVELY, x -> x.signer(0, 2));
            e.is("lives there", LIVELY.get().signer(0, 3), 1);
            LetterRouter x = LIVELY.get();
            e.is("the second one", x.signer(0, 4), 2);
            x.leave(2, 4, 4);
            e.fails("both are absent", Edges.MISSING, x, y -> y.signer(0, 4));
        });
        e.test(16, missing, "19 others live there, but none was allowed", () -> {
            Supplier<LetterRouter> twenty = () -> {
                LetterRouter x = Scenes.twentyAtHome();
                x.leave(3, 0, 0);
                return x;
            };
            e.rejects("person 3", Edges.MISSING, twenty, x -> x.signer(3, 0));
        });
    }

    private void residents() {
        String what = "Returns how many persons live in a house whose way on a day ends in a house.";
        e.test(17, what, "on the first and the last day of a redirect, and next to them", () -> {
            LetterRouter x = Scenes.row(2);
            x.redirectPerson(0, 1, 10, 12);
            int[] due = {0, 1, 1, 0};
            int[] days = {9, 10, 12, 13};
            for (int i = 0; i < 4; i++) {
                e.is("from 0 to 1 on day " + days[i], x.residents(0, 1, days[i]), due[i]);
                e.is("from 0 to 0 on day " + days[i], x.residents(0, 0, days[i]), 1 - due[i]);
                e.is("from 1 to 1 on day " + days[i], x.residents(1, 1, days[i]), 1);
            }
        });
        e.test(17, "Returns the number.", "none, and all 20", () -> {
            LetterRouter x = new LetterRouter();
            x.addHouse(0, 1);
            x.addHouse(0, 2);
            e.is("nobody lives there", x.residents(0, 0, 0), 0);
            for (int i = 0; i < 20; i++) {
                x.addPerson(0);
            }
            e.is("all at home", x.residents(0, 0, 0), 20);
            e.is("nobody elsewhere", x.residents(0, 1, 0), 0);
            x.redirectHouse(0, 1, 5, 5);
            e.is("nobody at home", x.residents(0, 0, 5), 0);
            e.is("all elsewhere", x.residents(0, 1, 5), 20);
            e.is("nobody lives there", x.residents(1, 1, 5), 0);
        });
        e.test(17, ONE_OF_HOUSES, "none is there", () ->
            e.rejects("house 0", Edges.INDEX, EMPTY, x -> x.residents(0, 0, 0)));
        e.test(17, ONE_OF_HOUSES, "the first and the last one are there, those next to them are not", () -> {
            e.is("house 0", LIVELY.get().residents(0, 0, 0), 1);
            e.is("house 3", LIVELY.get().residents(3, 3, 0), 1);
            for (int house : Edges.outside(0, 3)) {
                e.rejects("house " + house, Edges.INDEX, LIVELY, x -> x.residents(house, 0, 0));
                e.rejects("end " + house, Edges.INDEX, LIVELY, x -> x.residents(0, house, 0));
            }
            for (int house : Edges.outside(0, 15)) {
                e.rejects("house " + house, Edges.INDEX, FULL, x -> x.residents(house, 0, 0));
                e.rejects("end " + house, Edges.INDEX, FULL, x -> x.residents(0, house, 0));
            }
        });
        e.test(17, ONE_OF_HOUSES, "listed ahead of the day", () -> {
            e.rejects("house", Edges.INDEX, LIVELY, x -> x.residents(4, 0, 366));
            e.rejects("end", Edges.INDEX, LIVELY, x -> x.residents(0, 4, -1));
        });
        e.test(17, NO_DAY, "days 0 and 365 are there, -1 and 366 are not", () -> {
            e.is("day 0", LIVELY.get().residents(1, 1, 0), 2);
            e.is("day 365", LIVELY.get().residents(1, 2, 365), 2);
            for (int day : Edges.outside(0, 365)) {
                e.rejects("day " + day, Edges.ARGUMENT, LIVELY, x -> x.residents(1, 1, day));
            }
        });
    }
}
