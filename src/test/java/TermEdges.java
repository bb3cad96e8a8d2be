import java.util.function.Supplier;

/** The boundaries that the terms name: days, houses and persons, walks, redirects, holds, absences and signing. */
final class TermEdges {
    private static final Supplier<LetterRouter> LIVELY = Scenes.LIVELY;
    private static final Supplier<LetterRouter> FULL = Scenes.FULL;
    private static final int TERMS = Edges.TERMS;

    private final Edges e;

    private TermEdges(Edges e) {
        this.e = e;
    }

    static void addTo(Edges e) {
        TermEdges all = new TermEdges(e);
        all.calls();
        all.days();
        all.housesAndPersons();
        all.walks();
        all.walkServes();
        all.stops();
        all.redirectNumbers();
        all.redirectDays();
        all.ways();
        all.round();
        all.roundInDoubt();
        all.holds();
        all.absences();
        all.signing();
        all.otherDays();
    }

    private static LetterRouter houses(int... numbers) {
        LetterRouter x = new LetterRouter();
        for (int number : numbers) {
            x.addHouse(0, number);
        }
        return x;
    }

    private void calls() {
        String most = "An object is used for at most 512 calls after it has been made; what later calls answer is "
            + "free.";
        e.test(TERMS, most, "the 511th and the 512th call, behind changes that were undone", () -> {
            LetterRouter x = new LetterRouter();
            for (int i = 0; i < 255; i++) {
                x.pass(60);
                x.undo();
            }
            e.is("the 511th", x.addHouse(0, 1), 0);
            e.is("the 512th", x.undo(), 0);
        });
        e.test(TERMS, most, "the 512th call behind 511 changes", () -> {
            LetterRouter x = Scenes.row(1);
            for (int i = 3; i < 511; i++) {
                x.leave(0, i % 366, i % 366);
            }
            e.is("the 512th", x.leave(0, 0, 0), 20);
        });
        e.test(TERMS, most, "the 512th call behind 511 questions", () -> {
            LetterRouter x = Scenes.row(1);
            x.addLetter(0, 1, false);
            for (int i = 4; i < 511; i++) {
                x.note(0, i % 5);
            }
            e.is("the 512th", x.note(0, 4), '?');
        });
    }

    private void days() {
        String numbered = "Days are numbered from 0 to 365.";
        String today = "Today is a day, 0 at first.";
        e.test(TERMS, numbered, "0 and 365 are days of way, signer and residents, -1 and 366 are not", () -> {
            for (int day : new int[] {0, 365}) {
                LetterRouter x = Scenes.row(1);
                e.is("way on " + day, x.way(0, day, 0), 0);
                e.is("signer on " + day, x.signer(0, day), 0);
                e.is("residents on " + day, x.residents(0, 0, day), 1);
            }
            for (int day : Edges.outside(0, 365)) {
                LetterRouter x = Scenes.row(1);
                e.fails("way on " + day, Edges.ARGUMENT, x, y -> y.way(0, day, 0));
                e.fails("signer on " + day, Edges.ARGUMENT, x, y -> y.signer(0, day));
                e.fails("residents on " + day, Edges.ARGUMENT, x, y -> y.residents(0, 0, day));
            }
        });
        e.test(TERMS, numbered, "0 and 365 are days of redirects, holds and absences, -1 and 366 are not", () -> {
            LetterRouter x = Scenes.row(2);
            e.is("redirect of a person", x.redirectPerson(0, 1, 0, 365), 0);
            e.is("redirect of a house", x.redirectHouse(0, 1, 0, 365), 1);
            e.is("absence", x.leave(0, 0, 365), 1);
            e.is("hold to day 0", x.hold(0, 0), -1);
            e.is("hold to day 365", x.hold(0, 365), 0);
            e.fails("hold to day 366", Edges.ARGUMENT, x, y -> y.hold(0, 366));
            e.fails("absence on day 366", Edges.ARGUMENT, x, y -> y.leave(0, 366, 366));
            e.fails("absence on day -1", Edges.ARGUMENT, x, y -> y.leave(0, -1, -1));
            e.fails("redirect to day 366", Edges.ARGUMENT, x, y -> y.redirectPerson(0, 1, 0, 366));
            e.fails("redirect from day -1", Edges.ARGUMENT, x, y -> y.redirectHouse(0, 1, -1, 0));
        });
        e.test(TERMS, today, "0 at first", () -> e.is("today", new LetterRouter().today(), 0));
        e.test(TERMS, today, "it can be 365, and no more", () -> {
            LetterRouter x = new LetterRouter();
            Scenes.pass(x, 365);
            e.is("today", x.today(), 365);
            e.fails("one more", Edges.ARGUMENT, x, y -> y.pass(1));
            e.is("still", x.today(), 365);
        });
    }

    private void housesAndPersons() {
        String houses = "At most 16 houses are made, numbered from 0, each with a street from 0 to 4 and a house "
            + "number from 1 to 99; no two have the same of both.";
        String persons = "At most 20 persons are made, numbered from 0; a person lives in a house.";
        e.test(TERMS, houses, "16 are made, numbered 0 to 15, a 17th is not", () -> {
            LetterRouter x = new LetterRouter();
            for (int i = 0; i < 16; i++) {
                e.is("house", x.addHouse(4, 99 - i), i);
            }
            e.fails("17th", Edges.STATE, x, y -> y.addHouse(0, 1));
            e.is("houses", x.account(0), 16);
        });
        e.test(TERMS, houses, "each street from 0 to 4 with each number from 1 to 99", () -> {
            for (int street = -1; street <= 5; street++) {
                for (int number = 0; number <= 100; number++) {
                    int s = street;
                    int n = number;
                    LetterRouter x = new LetterRouter();
                    if (street >= 0 && street <= 4 && number >= 1 && number <= 99) {
                        e.is(street + "/" + number, x.addHouse(street, number), 0);
                    } else {
                        e.fails(street + "/" + number, Edges.ARGUMENT, x, y -> y.addHouse(s, n));
                    }
                }
            }
        });
        e.test(TERMS, houses, "no two the same: as the one made first, and as the one made last", () -> {
            LetterRouter x = houses(1, 2, 99);
            e.fails("first", Edges.ARGUMENT, x, y -> y.addHouse(0, 1));
            e.fails("last", Edges.ARGUMENT, x, y -> y.addHouse(0, 99));
            e.is("one of another street", x.addHouse(1, 99), 3);
        });
        e.test(TERMS, persons, "20 are made, numbered 0 to 19, a 21st is not", () -> {
            LetterRouter x = houses(1);
            for (int i = 0; i < 20; i++) {
                e.is("person", x.addPerson(0), i);
            }
            e.fails("21st", Edges.STATE, x, y -> y.addPerson(0));
            e.is("persons", x.account(1), 20);
        });
        e.test(TERMS, persons, "in the first house, in the last one, and not in the next one", () -> {
            LetterRouter x = houses(5, 6, 7);
            x.addPerson(0);
            x.addPerson(2);
            e.fails("the next one", Edges.INDEX, x, y -> y.addPerson(3));
            e.is("first", x.way(0, 0, 0), 0);
            e.is("last", x.way(1, 0, 0), 2);
        });
    }

    private void walks() {
        String most = "At most 10 walks are made, numbered from 0.";
        String walk = "A walk has a street, a side, 0 for even house numbers, 1 for odd ones and 2 for both, a "
            + "direction, 0 for ascending house numbers and 1 for descending ones, and a first and a last house "
            + "number, the first one not greater than the last one.";
        e.test(TERMS, most, "10 are made, numbered 0 to 9, an 11th is not", () -> {
            LetterRouter x = new LetterRouter();
            for (int i = 1; i <= 10; i++) {
                x.addHouse(0, i);
                x.addWalk(0, 2, 0, i, i);
            }
            for (int i = 0; i < 10; i++) {
                e.is("stop 0 of walk " + i, x.stop(i, 0), i);
            }
            e.fails("11th", Edges.STATE, x, y -> y.addWalk(0, 2, 0, 1, 1));
            e.is("walks", x.account(2), 10);
        });
        e.test(TERMS, walk, "side 0: 2 and 98, side 1: 1 and 99, side 2: all four", () -> {
            int[][] due = {{-1, 0, 0, -1}, {0, -1, -1, 0}, {0, 0, 0, 0}};
            for (int side = 0; side <= 2; side++) {
                LetterRouter x = houses(1, 2, 98, 99);
                x.addWalk(0, side, 0, 1, 99);
                for (int house = 0; house < 4; house++) {
                    e.is("side " + side + ", house " + house, x.walkOf(house), due[side][house]);
                }
            }
        });
        e.test(TERMS, walk, "directions 0 and 1 have 1 and 99 at opposite ends", () -> {
            LetterRouter x = houses(99, 1);
            x.addWalk(0, 2, 0, 1, 99);
            e.is("ascending begins with", x.stop(0, 0), 1);
            e.is("ascending ends with", x.stop(0, 1), 0);
            x.undo();
            x.addWalk(0, 2, 1, 1, 99);
            e.is("descending begins with", x.stop(0, 0), 0);
            e.is("descending ends with", x.stop(0, 1), 1);
        });
        e.test(TERMS, walk, "first the same as last, and greater by 1, also for a descending walk", () -> {
            for (int direction : new int[] {0, 1}) {
                LetterRouter x = houses(50);
                e.is("the same", x.addWalk(0, 2, direction, 50, 50), 1);
                e.fails("greater", Edges.ARGUMENT, x, y -> y.addWalk(0, 2, direction, 51, 50));
            }
        });
    }

    private void walkServes() {
        String serves = "It serves the houses of its street and side whose house numbers are from the first to the "
            + "last one, if no walk with a lower number serves them.";
        String later = "Walks serve houses that are made later, too.";
        e.test(TERMS, serves, "the first and the last number, and those next to them", () -> {
            LetterRouter x = houses(9, 10, 20, 21);
            x.addWalk(0, 2, 0, 10, 20);
            int[] due = {-1, 0, 0, -1};
            for (int house = 0; house < 4; house++) {
                e.is("house " + house, x.walkOf(house), due[house]);
            }
        });
        e.test(TERMS, serves, "a first number of the other side", () -> {
            LetterRouter x = houses(10, 11, 12, 13);
            e.is("odd ones from 10 to 12", x.addWalk(0, 1, 0, 10, 12), 1);
            e.is("its stop", x.stop(0, 0), 1);
            e.is("even ones on 11", x.addWalk(0, 0, 0, 11, 11), 0);
        });
        e.test(TERMS, serves, "the streets next to it are not served", () -> {
            LetterRouter x = new LetterRouter();
            for (int street = 0; street < 5; street++) {
                x.addHouse(street, 7);
            }
            x.addWalk(2, 2, 0, 1, 99);
            for (int house = 0; house < 5; house++) {
                e.is("street " + house, x.walkOf(house), house == 2 ? 0 : -1);
            }
        });
        e.test(TERMS, serves, "one number in common is that of the lower walk", () -> {
            LetterRouter x = houses(10, 20, 30);
            x.addWalk(0, 2, 0, 10, 20);
            e.is("one is left", x.addWalk(0, 2, 0, 20, 30), 1);
            e.is("20", x.walkOf(1), 0);
            e.is("30", x.walkOf(2), 1);
        });
        e.test(TERMS, serves, "the 10th walk serves what nine others leave", () -> {
            LetterRouter x = houses(1, 2);
            for (int i = 0; i < 9; i++) {
                x.addWalk(0, 1, 0, 1, 99);
            }
            e.is("one", x.addWalk(0, 2, 0, 1, 99), 1);
            e.is("even", x.walkOf(1), 9);
            e.is("odd", x.walkOf(0), 0);
        });
        e.test(TERMS, later, "a walk that served none, and the 16th house", () -> {
            LetterRouter x = new LetterRouter();
            e.is("none", x.addWalk(0, 2, 0, 1, 99), 0);
            for (int i = 16; i >= 1; i--) {
                x.addHouse(0, i);
            }
            e.is("house 0 is the last stop", x.stopIndex(0), 15);
            e.is("house 15 is the first stop", x.stopIndex(15), 0);
        });
        e.test(TERMS, later, "not beyond the last number, and not those of a lower walk", () -> {
            LetterRouter x = new LetterRouter();
            x.addWalk(0, 2, 0, 5, 5);
            x.addWalk(0, 2, 0, 5, 6);
            x.addHouse(0, 4);
            x.addHouse(0, 5);
            x.addHouse(0, 6);
            x.addHouse(0, 7);
            int[] due = {-1, 0, 1, -1};
            for (int house = 0; house < 4; house++) {
                e.is("house " + house, x.walkOf(house), due[house]);
            }
        });
    }

    private void stops() {
        String stop = "A stop of a walk is a house that it serves; its stops are in the order of its direction.";
        e.test(TERMS, stop, "a house that a lower walk serves is no stop", () -> {
            LetterRouter x = houses(1);
            x.addWalk(0, 2, 0, 1, 99);
            x.addWalk(0, 2, 0, 1, 99);
            e.is("of the lower walk", x.stop(0, 0), 0);
            e.fails("of the other one", Edges.MISSING, x, y -> y.stop(1, 0));
        });
        e.test(TERMS, stop, "16 stops, made out of order, ascending and descending", () -> {
            for (int direction : new int[] {0, 1}) {
                LetterRouter x = new LetterRouter();
                for (int i = 0; i < 16; i++) {
                    x.addHouse(0, 1 + i * 7 % 16);
                }
                x.addWalk(0, 2, direction, 1, 99);
                for (int i = 0; i < 16; i++) {
                    int number = 1 + i * 7 % 16;
                    int due = direction == 0 ? number - 1 : 16 - number;
                    e.is("index of number " + number, x.stopIndex(i), due);
                    e.is("stop " + due, x.stop(0, due), i);
                }
            }
        });
    }

    private void redirectNumbers() {
        String most = "At most 12 redirects are kept, numbered from 0; when one is dropped, the numbers of the later "
            + "ones decrease by 1.";
        e.test(TERMS, most, "12 are kept, numbered 0 to 11, a 13th is not", () -> {
            LetterRouter x = Scenes.row(2);
            for (int i = 0; i < 12; i++) {
                e.is("redirect", x.redirectPerson(0, 1, i, i), i);
            }
            e.fails("13th of a person", Edges.REFUSED, x, y -> y.redirectPerson(0, 1, 12, 12));
            e.fails("13th of a house", Edges.REFUSED, x, y -> y.redirectHouse(0, 1, 12, 12));
            e.is("kept", x.account(3), 12);
        });
        e.test(TERMS, most, "the first is dropped, and all others count by one less", () -> {
            LetterRouter x = Scenes.row(2);
            for (int i = 0; i < 12; i++) {
                x.redirectPerson(0, 1, i, i);
            }
            for (int left = 11; left >= 0; left--) {
                e.is("on its day", x.way(0, 11 - left, 0), 1);
                e.is("the first", x.dropRedirect(0), left);
                e.is("no longer", x.way(0, 11 - left, 0), 0);
                e.is("the next one stays", x.way(0, 12 - left, 0), left > 0 ? 1 : 0);
            }
        });
        e.test(TERMS, most, "the last is dropped, and all others count as before", () -> {
            LetterRouter x = Scenes.row(2);
            for (int i = 0; i < 12; i++) {
                x.redirectPerson(0, 1, i, i);
            }
            x.dropRedirect(11);
            e.is("the 12th", x.way(0, 11, 0), 0);
            e.is("the 11th", x.way(0, 10, 0), 1);
            e.is("the number again", x.redirectPerson(0, 1, 11, 11), 11);
        });
        e.test(TERMS, most, "one of a person is dropped ahead of one of a house, and the other way round", () -> {
            LetterRouter x = Scenes.row(4);
            x.redirectPerson(3, 0, 1, 9);
            x.redirectHouse(1, 2, 2, 8);
            x.redirectPerson(1, 3, 3, 7);
            x.dropRedirect(0);
            e.is("person 3 is at home", x.way(3, 5, -1), 3);
            e.is("house 1 leads to 2", x.way(1, 2, -1), 2);
            e.is("person 1 to 3", x.way(1, 3, -1), 3);
            e.is("up to its last day", x.way(1, 8, -1), 2);
            x.dropRedirect(0);
            e.is("house 1 leads nowhere", x.way(1, 2, -1), 1);
            e.is("person 1 still to 3", x.way(1, 7, -1), 3);
            e.is("and not beyond", x.way(1, 8, -1), 1);
        });
    }

    private void redirectDays() {
        String holds = "A redirect is of a person or of a house, leads to a house, and holds from a first to a last "
            + "day.";
        String greatest = "Of several of the same person, or of the same house, that hold on a day, the one with the "
            + "greatest number counts.";
        e.test(TERMS, holds, "of a person: on its first and its last day, and not next to them", () -> {
            LetterRouter x = Scenes.row(2);
            x.redirectPerson(0, 1, 100, 200);
            int[] days = {99, 100, 200, 201};
            for (int i = 0; i < 4; i++) {
                e.is("day " + days[i], x.way(0, days[i], -1), i == 1 || i == 2 ? 1 : 0);
            }
        });
        e.test(TERMS, holds, "of a house: on its first and its last day, and not next to them", () -> {
            LetterRouter x = Scenes.row(2);
            x.redirectHouse(0, 1, 100, 200);
            int[] days = {99, 100, 200, 201};
            for (int i = 0; i < 4; i++) {
                e.is("day " + days[i], x.way(0, days[i], -1), i == 1 || i == 2 ? 1 : 0);
            }
        });
        e.test(TERMS, holds, "one of person 0 is none of house 0 or of person 1", () -> {
            LetterRouter x = Scenes.row(3);
            x.addPerson(0);
            x.redirectPerson(0, 2, 0, 365);
            e.is("person 0", x.way(0, 0, -1), 2);
            e.is("person 1", x.way(1, 0, -1), 1);
            e.is("another one of house 0", x.way(3, 0, -1), 0);
        });
        e.test(TERMS, holds, "one of house 0 is none of person 0", () -> {
            LetterRouter x = houses(1, 2);
            x.addPerson(1);
            x.redirectHouse(0, 1, 0, 365);
            e.is("person 0 begins at home", x.way(0, 0, 0), 1);
        });
        e.test(TERMS, greatest, "of a person: where the greater one begins and where it ends", () -> {
            LetterRouter x = Scenes.row(3);
            x.redirectPerson(0, 1, 0, 365);
            x.redirectPerson(0, 2, 10, 20);
            int[] days = {0, 9, 10, 20, 21, 365};
            int[] due = {1, 1, 2, 2, 1, 1};
            for (int i = 0; i < 6; i++) {
                e.is("day " + days[i], x.way(0, days[i], 0), due[i]);
            }
        });
        e.test(TERMS, greatest, "of a house: where the greater one begins and where it ends", () -> {
            LetterRouter x = Scenes.row(3);
            x.redirectHouse(0, 1, 0, 365);
            x.redirectHouse(0, 2, 10, 20);
            int[] days = {0, 9, 10, 20, 21, 365};
            int[] due = {1, 1, 2, 2, 1, 1};
            for (int i = 0; i < 6; i++) {
                e.is("day " + days[i], x.way(0, days[i], -1), due[i]);
            }
        });
        e.test(TERMS, greatest, "the 12th of 12 on the same day, also if it begins earlier", () -> {
            LetterRouter x = Scenes.row(3);
            for (int i = 0; i < 11; i++) {
                x.redirectPerson(0, 1, 20 - i, 30);
            }
            x.redirectPerson(0, 2, 0, 30);
            e.is("the 12th", x.way(0, 30, 0), 2);
            x.dropRedirect(11);
            e.is("the 11th", x.way(0, 30, 0), 1);
        });
    }

    private void ways() {
        String way = "The way of a person on a day begins with the house to which the redirect of the person leads, "
            + "or with the house in which the person lives if there is none, and goes on with the house to which "
            + "the redirect of this house leads, and so on; its end is the first house without a redirect.";
        String lives = "A person who is redirected lives in the same house as before.";
        e.test(TERMS, way, "one house", () -> {
            LetterRouter x = Scenes.row(1);
            e.is("begins", x.way(0, 0, 0), 0);
            e.is("ends", x.way(0, 0, -1), 0);
            e.fails("goes on", Edges.MISSING, x, y -> y.way(0, 0, 1));
        });
        e.test(TERMS, way, "13 houses in an order of their own", () -> {
            LetterRouter x = Scenes.row(16);
            int[] order = new int[13];
            for (int i = 0; i < 13; i++) {
                order[i] = (3 + i * 5) % 16;
            }
            for (int i = 11; i >= 0; i--) {
                x.redirectHouse(order[i], order[i + 1], 7, 7);
            }
            for (int i = 0; i < 13; i++) {
                e.is("house " + i, x.way(3, 7, i), order[i]);
            }
            e.is("end", x.way(3, 7, -1), order[12]);
            e.fails("one more", Edges.MISSING, x, y -> y.way(3, 7, 13));
        });
        e.test(TERMS, way, "with a redirect of the person, the redirect of its own house does not count", () -> {
            LetterRouter x = Scenes.row(3);
            x.redirectHouse(0, 1, 0, 365);
            x.redirectPerson(0, 2, 5, 5);
            e.is("end on day 4", x.way(0, 4, -1), 1);
            e.is("end on day 5", x.way(0, 5, -1), 2);
            e.fails("no more on day 5", Edges.MISSING, x, y -> y.way(0, 5, 1));
        });
        e.test(TERMS, lives, "residents of the house before, on the first and the last day", () -> {
            LetterRouter x = Scenes.row(2);
            x.redirectPerson(0, 1, 0, 365);
            for (int day : new int[] {0, 365}) {
                e.is("of 0 on day " + day, x.residents(0, 1, day), 1);
                e.is("of 1 on day " + day, x.residents(1, 1, day), 1);
            }
        });
        e.test(TERMS, lives, "it signs for others at home, and not where its letters go", () -> {
            LetterRouter x = Scenes.row(2);
            x.addPerson(0);
            x.redirectPerson(0, 1, 0, 365);
            x.allow(2, 0, true);
            x.leave(2, 0, 365);
            e.is("at home", x.signer(2, 0), 0);
            x.redirectPerson(2, 1, 0, 365);
            e.fails("elsewhere", Edges.MISSING, x, y -> y.signer(2, 0));
        });
    }

    private void round() {
        String round = "No redirects may lead round: on no day from 0 to 365 may there be a house from which one "
            + "comes to this house again, from redirect to redirect of houses.";
        e.test(TERMS, round, "two houses, on each single day", () -> {
            for (int day : new int[] {0, 1, 364, 365}) {
                LetterRouter x = Scenes.row(2);
                x.redirectHouse(0, 1, day, day);
                e.fails("day " + day, Edges.REFUSED, x, y -> y.redirectHouse(1, 0, 0, 365));
                e.is("reason", x.refusal(), 2);
                if (day > 0) {
                    e.is("ahead of day " + day, x.redirectHouse(1, 0, 0, day - 1), 1);
                }
                if (day < 365) {
                    x.redirectHouse(1, 0, day + 1, 365);
                    e.is("behind day " + day, x.way(1, 365, -1), 0);
                }
            }
        });
        e.test(TERMS, round, "of 12 houses, and of 3 houses on a way of 12", () -> {
            LetterRouter x = Scenes.row(16);
            for (int i = 0; i < 11; i++) {
                x.redirectHouse(i, i + 1, 0, 365);
            }
            e.fails("to the first", Edges.REFUSED, x, y -> y.redirectHouse(11, 0, 0, 0));
            e.fails("to the tenth", Edges.REFUSED, x, y -> y.redirectHouse(11, 9, 0, 0));
            e.fails("to the one before", Edges.REFUSED, x, y -> y.redirectHouse(11, 10, 0, 0));
            e.is("to one outside", x.redirectHouse(11, 12, 0, 0), 11);
        });
        e.test(TERMS, round, "of the houses with the greatest numbers, in which nobody lives", () -> {
            LetterRouter x = new LetterRouter();
            for (int i = 1; i <= 16; i++) {
                x.addHouse(0, i);
            }
            x.redirectHouse(15, 14, 0, 0);
            e.fails("back", Edges.REFUSED, x, y -> y.redirectHouse(14, 15, 0, 0));
            e.fails("itself", Edges.REFUSED, x, y -> y.redirectHouse(15, 15, 0, 0));
        });
        e.test(TERMS, round, "it opens only where the redirect that counts is dropped, on a single day", () -> {
            LetterRouter x = Scenes.row(4);
            x.redirectHouse(0, 1, 0, 365);
            x.redirectHouse(0, 2, 200, 200);
            e.is("under the cover", x.redirectHouse(1, 0, 200, 200), 2);
            e.fails("without the cover", Edges.REFUSED, x, y -> y.dropRedirect(1));
            e.fails("a day longer", Edges.REFUSED, x, y -> y.redirectHouse(1, 0, 200, 201));
            e.fails("a day earlier", Edges.REFUSED, x, y -> y.redirectHouse(1, 0, 199, 200));
        });
        e.test(TERMS, round, "it opens behind one cover and closes ahead of the next one", () -> {
            LetterRouter x = Scenes.row(3);
            x.redirectHouse(0, 1, 0, 365);
            x.redirectHouse(0, 2, 0, 50);
            x.redirectHouse(0, 2, 52, 365);
            e.fails("a single day is open", Edges.REFUSED, x, y -> y.redirectHouse(1, 0, 0, 365));
            e.is("reason", x.refusal(), 2);
            x.redirectHouse(0, 2, 51, 51);
            e.is("none is open", x.redirectHouse(1, 0, 0, 365), 4);
            e.fails("the cover of the single day", Edges.REFUSED, x, y -> y.dropRedirect(3));
            e.fails("the cover from day 0", Edges.REFUSED, x, y -> y.dropRedirect(1));
            e.fails("the cover to day 365", Edges.REFUSED, x, y -> y.dropRedirect(2));
            e.is("what is covered", x.dropRedirect(0), 4);
        });
        e.test(TERMS, round, "redirects of persons are none of houses", () -> {
            LetterRouter x = Scenes.row(2);
            x.redirectHouse(0, 1, 0, 365);
            e.is("person 1 to house 0", x.redirectPerson(1, 0, 0, 365), 1);
            e.is("round home", x.way(1, 0, -1), 1);
            e.is("it begins elsewhere", x.way(1, 0, 0), 0);
        });
    }

    private void roundInDoubt() {
        String itself = "A redirect of a house to itself leads round; one of a person to the house in which the "
            + "person lives is possible.";
        String over = "Redirects may not lead round on days that are over, either.";
        String ascending = "Days are in ascending order also if both are the same.";
        e.test(TERMS, itself, "the first and the last house, on a single day", () -> {
            e.refuses("house 0", 2, LIVELY, x -> x.redirectHouse(0, 0, 0, 0));
            e.refuses("house 3", 2, LIVELY, x -> x.redirectHouse(3, 3, 365, 365));
        });
        e.test(TERMS, itself, "the only person of the only house", () -> {
            LetterRouter x = Scenes.row(1);
            e.is("to its home", x.redirectPerson(0, 0, 0, 365), 0);
            e.is("its way", x.way(0, 0, -1), 0);
            e.fails("no more", Edges.MISSING, x, y -> y.way(0, 0, 1));
        });
        e.test(TERMS, over, "day 0 on day 1 and day 364 on day 365", () -> {
            for (int today : new int[] {1, 365}) {
                LetterRouter x = Scenes.row(2);
                Scenes.pass(x, today);
                x.redirectHouse(0, 1, today - 1, today - 1);
                e.fails("the day before", Edges.REFUSED, x, y -> y.redirectHouse(1, 0, today - 1, today - 1));
                e.is("reason", x.refusal(), 2);
                e.is("today", x.redirectHouse(1, 0, today, today), 1);
            }
        });
        e.test(TERMS, over, "a cover whose days are over cannot be dropped", () -> {
            Supplier<LetterRouter> covered = () -> {
                LetterRouter x = LIVELY.get();
                x.pass(60);
                return x;
            };
            e.refuses("redirect 3", 2, covered, x -> x.dropRedirect(3));
        });
        e.test(TERMS, ascending, "of redirects and absences", () -> {
            LetterRouter x = Scenes.row(2);
            e.is("of a person", x.redirectPerson(0, 1, 9, 9), 0);
            e.is("of a house", x.redirectHouse(0, 1, 9, 9), 1);
            e.is("absence", x.leave(0, 9, 9), 1);
            e.fails("of a person, 9 to 8", Edges.ARGUMENT, x, y -> y.redirectPerson(0, 1, 9, 8));
            e.fails("of a house, 9 to 8", Edges.ARGUMENT, x, y -> y.redirectHouse(0, 1, 9, 8));
            e.fails("absence, 9 to 8", Edges.ARGUMENT, x, y -> y.leave(0, 9, 8));
        });
    }

    private void holds() {
        String hold = "A person can have a hold with a last day; it holds up to this day, which counts.";
        String place = "A new hold takes the place of the one before.";
        e.test(TERMS, hold, "the last day counts, the next one does not", () -> {
            for (int last : new int[] {0, 1, 28}) {
                LetterRouter x = Scenes.row(1);
                x.addLetter(0, 1, false);
                x.hold(0, last);
                Scenes.pass(x, last);
                e.is("on day " + last, x.pass(1), 0);
                e.is("on the day behind " + last, x.pass(1), 1);
            }
        });
        e.test(TERMS, hold, "a last day of yesterday holds nothing, one of today does", () -> {
            LetterRouter x = Scenes.row(2);
            x.pass(5);
            x.hold(0, 4);
            x.hold(1, 5);
            x.addLetter(0, 1, false);
            x.addLetter(1, 1, false);
            e.is("delivered", x.pass(1), 1);
            e.is("that of person 0", x.letter(0, 4), 1);
        });
        e.test(TERMS, place, "a shorter one and a longer one", () -> {
            LetterRouter x = Scenes.row(2);
            x.addLetter(0, 1, false);
            x.addLetter(1, 1, false);
            x.hold(0, 365);
            x.hold(0, 0);
            x.hold(1, 0);
            x.hold(1, 1);
            e.is("on day 0", x.pass(1), 0);
            e.is("on day 1", x.pass(1), 1);
            e.is("on day 2", x.pass(1), 1);
        });
    }

    private void absences() {
        String absent = "A person can be absent from a first to a last day.";
        String most = "At most 20 absences are kept; when there is one more, the oldest one goes.";
        String together = "The 20 absences are those of all persons together.";
        e.test(TERMS, absent, "on the first and the last day, and not next to them", () -> {
            LetterRouter x = Scenes.row(1);
            x.leave(0, 1, 364);
            e.is("day 0", x.signer(0, 0), 0);
            e.fails("day 1", Edges.MISSING, x, y -> y.signer(0, 1));
            e.fails("day 364", Edges.MISSING, x, y -> y.signer(0, 364));
            e.is("day 365", x.signer(0, 365), 0);
        });
        e.test(TERMS, absent, "from day 0 to day 365", () -> {
            LetterRouter x = Scenes.row(1);
            x.leave(0, 0, 365);
            e.fails("day 0", Edges.MISSING, x, y -> y.signer(0, 0));
            e.fails("day 365", Edges.MISSING, x, y -> y.signer(0, 365));
        });
        e.test(TERMS, most, "20 are kept, with the 21st the 1st goes, with the 40th the 20th", () -> {
            LetterRouter x = Scenes.row(1);
            for (int made = 1; made <= 41; made++) {
                x.leave(0, made, made);
                int oldest = Math.max(1, made - 19);
                e.fails("the oldest of " + made, Edges.MISSING, x, y -> y.signer(0, oldest));
                e.is("the one that went of " + made, x.signer(0, oldest - 1), 0);
                int newest = made;
                e.fails("the newest of " + made, Edges.MISSING, x, y -> y.signer(0, newest));
            }
        });
        e.test(TERMS, most, "the oldest is that which was made first, not that of the earliest day", () -> {
            LetterRouter x = Scenes.row(1);
            for (int i = 0; i < 21; i++) {
                x.leave(0, 100 - i, 100 - i);
            }
            e.is("day 100", x.signer(0, 100), 0);
            e.fails("day 80", Edges.MISSING, x, y -> y.signer(0, 80));
        });
        e.test(TERMS, together, "the 20 of one person push out the one of another", () -> {
            LetterRouter x = Scenes.row(2);
            x.leave(0, 5, 5);
            for (int i = 1; i < 20; i++) {
                e.is("kept", x.leave(1, i, i), i + 1);
            }
            e.fails("still kept", Edges.MISSING, x, y -> y.signer(0, 5));
            e.is("one more", x.leave(1, 20, 20), 20);
            e.is("pushed out", x.signer(0, 5), 0);
        });
        e.test(TERMS, together, "20 persons have one each", () -> {
            LetterRouter x = Scenes.twentyAtHome();
            for (int i = 0; i < 20; i++) {
                e.is("kept", x.leave(i, 3, 3), i + 1);
            }
            for (int i = 0; i < 20; i++) {
                int person = i;
                e.fails("person " + i, Edges.MISSING, x, y -> y.signer(person, 3));
            }
            x.leave(19, 4, 4);
            e.is("person 0 is back", x.signer(0, 3), 0);
            e.fails("person 1 is not", Edges.MISSING, x, y -> y.signer(1, 3));
        });
    }

    private void signing() {
        String can = "A registered letter can be signed on a day by its person, or by a person whom that one has "
            + "allowed and who lives in the house at the end of the way; nobody who is absent on this day can "
            + "sign.";
        String lowest = "The person signs if that is possible, and otherwise the one with the lowest number of those "
            + "who can.";
        String wherever = "The person can sign wherever it lives.";
        e.test(TERMS, can, "at the end of the way, not where it begins or on the way", () -> {
            LetterRouter x = Scenes.row(4);
            x.leave(0, 0, 365);
            for (int other = 1; other < 4; other++) {
                x.allow(0, other, true);
            }
            x.redirectPerson(0, 1, 0, 365);
            x.redirectHouse(1, 2, 0, 8);
            x.redirectHouse(2, 3, 0, 7);
            e.is("the end on day 7", x.signer(0, 7), 3);
            e.is("the end on day 8", x.signer(0, 8), 2);
            e.is("the end on day 9", x.signer(0, 9), 1);
        });
        e.test(TERMS, can, "on the day ahead of an absence and on the day behind it", () -> {
            LetterRouter x = Scenes.twentyAtHome();
            x.leave(0, 0, 365);
            x.allow(0, 1, true);
            x.leave(1, 10, 20);
            e.is("day 9", x.signer(0, 9), 1);
            e.fails("day 10", Edges.MISSING, x, y -> y.signer(0, 10));
            e.fails("day 20", Edges.MISSING, x, y -> y.signer(0, 20));
            e.is("day 21", x.signer(0, 21), 1);
        });
        e.test(TERMS, can, "whom another has allowed, or who has allowed the person, cannot", () -> {
            LetterRouter x = Scenes.twentyAtHome();
            x.leave(0, 0, 365);
            x.allow(1, 2, true);
            x.allow(2, 0, true);
            x.allow(0, 1, true);
            x.leave(1, 0, 0);
            e.fails("allowance goes no further", Edges.MISSING, x, y -> y.signer(0, 0));
        });
        e.test(TERMS, lowest, "the person with the greatest number signs ahead of all others", () -> {
            LetterRouter x = Scenes.twentyAtHome();
            for (int other = 0; other < 19; other++) {
                x.allow(19, other, true);
            }
            e.is("the person", x.signer(19, 0), 19);
            x.leave(19, 0, 0);
            e.is("the lowest", x.signer(19, 0), 0);
            for (int other = 0; other < 19; other++) {
                x.leave(other, 0, 0);
                if (other < 18) {
                    e.is("the next lowest", x.signer(19, 0), other + 1);
                }
            }
            e.fails("none is left", Edges.MISSING, x, y -> y.signer(19, 0));
        });
        e.test(TERMS, wherever, "its letters go elsewhere, on the first and on the last day", () -> {
            LetterRouter x = Scenes.row(2);
            x.redirectPerson(0, 1, 0, 365);
            x.addLetter(0, 1, true);
            e.is("day 0", x.signer(0, 0), 0);
            e.is("day 365", x.signer(0, 365), 0);
            x.pass(1);
            e.is("signed", x.letter(0, 9), 0);
            e.is("delivered to", x.letter(0, 8), 1);
        });
    }

    private void otherDays() {
        String now = "What is asked of a day that is not today is told by what is so now.";
        e.test(TERMS, now, "day 0 asked on day 365, and day 365 on day 0", () -> {
            LetterRouter x = Scenes.row(2);
            Scenes.pass(x, 365);
            x.redirectPerson(0, 1, 0, 0);
            x.leave(1, 0, 0);
            e.is("way on day 0", x.way(0, 0, 0), 1);
            e.fails("signer on day 0", Edges.MISSING, x, y -> y.signer(1, 0));
            e.is("residents on day 0", x.residents(0, 1, 0), 1);
            LetterRouter y = Scenes.row(2);
            y.redirectPerson(0, 1, 365, 365);
            y.leave(1, 365, 365);
            e.is("way on day 365", y.way(0, 365, 0), 1);
            e.fails("signer on day 365", Edges.MISSING, y, z -> z.signer(1, 365));
            e.is("residents on day 365", y.residents(0, 1, 365), 1);
        });
        e.test(TERMS, now, "an absence that was pushed out is none of a day that is over", () -> {
            LetterRouter x = Scenes.row(1);
            x.leave(0, 0, 0);
            x.pass(1);
            e.fails("day 0", Edges.MISSING, x, y -> y.signer(0, 0));
            for (int i = 0; i < 20; i++) {
                x.leave(0, 300, 300);
            }
            e.is("day 0 now", x.signer(0, 0), 0);
        });
        e.test(TERMS, now, "a redirect that was dropped is none of a day that is over", () -> {
            LetterRouter x = FULL.get();
            x.pass(5);
            e.is("day 3", x.way(0, 3, 0), 1);
            x.dropRedirect(0);
            e.is("day 3 now", x.way(0, 3, 0), 0);
        });
    }
}
