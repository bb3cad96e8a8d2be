import java.util.function.Supplier;

/**
 * Offices in which the numbers of houses, persons, walks, letters and days all differ, and the office from its
 * snapshot, so that none of them can be taken for another one.
 */
final class CrossEdges {
    private static final int TERMS = Edges.TERMS;
    private static final Supplier<LetterRouter> CROSSED = CrossEdges::crossed;

    private final Edges e;

    private CrossEdges(Edges e) {
        this.e = e;
    }

    static void addTo(Edges e) {
        CrossEdges all = new CrossEdges(e);
        all.walks();
        all.walkDirections();
        all.redirectNumbers();
        all.redirectKinds();
        all.roundBehindCovers();
        all.allowances();
        all.residents();
        all.signing();
        all.newLetters();
        all.deliveries();
        all.deliveryOrder();
        all.meanDays();
        all.daysLeft();
        all.daysLeftOnChangingWays();
        all.undo();
        all.restore();
        all.walkComesBack();
    }

    /** House 1 is not served; walk 0 has house 3, walk 1 houses 4, 0 and 2 in this order. */
    private static LetterRouter crossed() {
        LetterRouter x = new LetterRouter();
        int[] streets = {3, 1, 3, 1, 3};
        int[] numbers = {8, 5, 2, 6, 9};
        for (int i = 0; i < 5; i++) {
            x.addHouse(streets[i], numbers[i]);
        }
        for (int home : new int[] {3, 0, 4, 0, 1, 2}) {
            x.addPerson(home);
        }
        x.addWalk(1, 0, 0, 1, 99);
        x.addWalk(3, 2, 1, 1, 9);
        return x;
    }

    private static String note(LetterRouter x, int letter) {
        return Picture.noteOf(x, letter);
    }

    private void walks() {
        e.test(5, "Returns the walk, or -1 if none serves it.", "of each house where their numbers differ", () -> {
            int[] due = {1, -1, 1, 0, 1};
            for (int house = 0; house < 5; house++) {
                e.is("house " + house, CROSSED.get().walkOf(house), due[house]);
            }
        });
        e.test(7, "Returns the index of a house among the stops of its walk.", "of each that is served", () -> {
            int[] due = {1, -1, 2, 0, 0};
            for (int house : new int[] {0, 2, 3, 4}) {
                e.is("house " + house, CROSSED.get().stopIndex(house), due[house]);
                e.is("its stop", CROSSED.get().stop(house == 3 ? 0 : 1, due[house]), house);
            }
        });
        e.test(7, "Throws `NoSuchElementException` if no walk serves it", "where others are served", () -> {
            e.rejects("house 1", Edges.MISSING, CROSSED, x -> x.stopIndex(1));
            e.rejects("house 3", Edges.MISSING, Scenes.LIVELY, x -> x.stopIndex(3));
            LetterRouter x = new LetterRouter();
            x.addHouse(0, 1);
            x.addHouse(0, 2);
            x.addWalk(0, 0, 0, 1, 99);
            e.fails("house 0", Edges.MISSING, x, y -> y.stopIndex(0));
            e.is("house 1", x.stopIndex(1), 0);
        });
        e.test(30, "Returns the number.", "the only house that no walk serves is not the last one", () ->
            e.is("account 9", CROSSED.get().account(9), 1));
    }

    private void walkDirections() {
        e.test(4, "Makes a walk.", "each keeps its own direction, side and numbers, whatever its street", () -> {
            LetterRouter x = new LetterRouter();
            for (int street = 0; street < 5; street++) {
                for (int number : new int[] {10, 11, 12}) {
                    x.addHouse(street, number + street);
                }
            }
            int[] streets = {2, 4, 0, 1, 3};
            int[] directions = {1, 0, 0, 1, 1};
            for (int walk = 0; walk < 5; walk++) {
                int first = 10 + streets[walk];
                e.is("served", x.addWalk(streets[walk], 2, directions[walk], first, first + 1), 2);
            }
            for (int walk = 0; walk < 5; walk++) {
                int house = 3 * streets[walk];
                e.is("first stop of walk " + walk, x.stop(walk, 0), house + directions[walk]);
                e.is("last stop of walk " + walk, x.stop(walk, 1), house + 1 - directions[walk]);
                e.is("behind its last number", x.walkOf(house + 2), -1);
            }
        });
    }

    private void redirectNumbers() {
        String holds = "A redirect is of a person or of a house, leads to a house, and holds from a first to a last "
            + "day.";
        e.test(TERMS, holds, "each of 12, of a person and of a house in turns, by itself", () -> {
            LetterRouter x = CROSSED.get();
            for (int i = 0; i < 12; i++) {
                if (i % 2 == 0) {
                    x.redirectPerson(1, 2, 20 + i, 20 + i);
                } else {
                    x.redirectHouse(0, 4, 20 + i, 20 + i);
                }
            }
            for (int i = 0; i < 12; i++) {
                e.is("person 1, redirect " + i, x.way(1, 20 + i, -1), i % 2 == 0 ? 2 : 4);
                e.is("person 3, redirect " + i, x.way(3, 20 + i, -1), i % 2 == 0 ? 0 : 4);
            }
            e.is("person 1 ahead of them", x.way(1, 19, -1), 0);
            e.is("person 1 behind them", x.way(1, 32, -1), 0);
        });
        e.test(TERMS, holds, "each of 12 persons, in the other order than their numbers", () -> {
            LetterRouter x = Scenes.row(16);
            for (int i = 0; i < 12; i++) {
                x.redirectPerson(13 - i, 15, 0, 365);
            }
            for (int person = 0; person < 16; person++) {
                boolean isRedirected = person >= 2 && person <= 13;
                e.is("person " + person, x.way(person, 9, -1), isRedirected ? 15 : person);
            }
        });
    }

    private void redirectKinds() {
        String most = "At most 12 redirects are kept, numbered from 0; when one is dropped, the numbers of the later "
            + "ones decrease by 1.";
        e.test(TERMS, most, "redirects of person 1 and of house 1, in which this person does not live", () -> {
            LetterRouter x = CROSSED.get();
            x.redirectPerson(5, 4, 1, 9);
            x.redirectHouse(1, 2, 2, 8);
            x.redirectPerson(1, 3, 3, 7);
            x.dropRedirect(0);
            e.is("person 5 is at home", x.way(5, 5, -1), 2);
            e.is("house 1 leads to 2", x.way(4, 2, -1), 2);
            e.is("person 1 stays at home on day 2", x.way(1, 2, -1), 0);
            e.is("person 1 goes to 3 on day 3", x.way(1, 3, -1), 3);
            e.is("person 1 is home again on day 8", x.way(1, 8, -1), 0);
            e.is("house 1 leads to 2 on day 8", x.way(4, 8, -1), 2);
            x.dropRedirect(0);
            e.is("house 1 leads nowhere", x.way(4, 3, -1), 1);
            e.is("person 1 still goes to 3", x.way(1, 3, -1), 3);
        });
        e.test(TERMS, most, "each of three kinds and places is dropped from among the others", () -> {
            for (int dropped = 0; dropped < 3; dropped++) {
                LetterRouter x = CROSSED.get();
                x.redirectHouse(0, 4, 10, 20);
                x.redirectPerson(0, 2, 12, 22);
                x.redirectHouse(3, 1, 14, 24);
                e.is("left without " + dropped, x.dropRedirect(dropped), 2);
                e.is("house 0 without " + dropped, x.way(3, 10, -1), dropped == 0 ? 0 : 4);
                e.is("person 0 without " + dropped, x.way(0, 13, -1), dropped == 1 ? 3 : 2);
                e.is("person 0 on day 24 without " + dropped, x.way(0, 24, -1), dropped == 2 ? 3 : 1);
                e.is("person 0 on day 25 without " + dropped, x.way(0, 25, -1), 3);
            }
        });
    }

    private void roundBehindCovers() {
        String round = "No redirects may lead round: on no day from 0 to 365 may there be a house from which one "
            + "comes to this house again, from redirect to redirect of houses.";
        e.test(TERMS, round, "a dropped cover opens it only behind the end of another cover", () -> {
            Supplier<LetterRouter> covered = () -> {
                LetterRouter x = Scenes.row(4);
                x.redirectHouse(0, 1, 0, 365);
                x.redirectHouse(0, 2, 0, 50);
                x.redirectHouse(0, 3, 0, 365);
                x.redirectHouse(1, 0, 0, 365);
                return x;
            };
            e.refuses("the longer cover", 2, covered, x -> x.dropRedirect(2));
            e.is("the shorter cover", covered.get().dropRedirect(1), 3);
            e.is("what is covered", covered.get().dropRedirect(0), 3);
            e.is("the way back", covered.get().dropRedirect(3), 3);
        });
        e.test(TERMS, round, "the other cover ends on day 364 or on day 365", () -> {
            for (int last : new int[] {364, 365}) {
                Supplier<LetterRouter> covered = () -> {
                    LetterRouter x = Scenes.row(4);
                    x.redirectHouse(0, 1, 0, 365);
                    x.redirectHouse(0, 3, 0, 365);
                    x.redirectHouse(0, 2, 0, last);
                    x.redirectHouse(1, 0, 0, 365);
                    return x;
                };
                if (last == 364) {
                    e.refuses("open on day 365", 2, covered, x -> x.dropRedirect(1));
                } else {
                    e.is("open on no day", covered.get().dropRedirect(1), 3);
                }
            }
        });
    }

    private void allowances() {
        String makes = "Makes a person, without a limit of weight, a hold and absences, who has allowed nobody.";
        String lets = "Lets a person allow another one to sign, or no longer.";
        e.test(3, makes, "what others have allowed stays, also of one with the number of the house", () -> {
            for (int house = 0; house < 5; house++) {
                LetterRouter x = CROSSED.get();
                int person = house;
                x.allow(person, 5, true);
                x.setLimit(person, 3);
                x.hold(person, 7);
                e.is("number", x.addPerson(house), 6);
                e.is("allowed by " + person, x.allow(person, 5, true), true);
                e.is("limit of " + person, x.setLimit(person, 3), 3);
                e.is("hold of " + person, x.hold(person, 7), 7);
            }
        });
        e.test(13, lets, "no longer: of each person, and of this one only", () -> {
            for (int person = 0; person < 6; person++) {
                LetterRouter x = CROSSED.get();
                int other = (person + 2) % 6;
                int third = (person + 3) % 6;
                x.allow(person, other, true);
                x.allow(person, third, true);
                x.allow(third, other, true);
                e.is("it was allowed", x.allow(person, other, false), true);
                e.is("no longer", x.allow(person, other, false), false);
                e.is("the third one still", x.allow(person, third, false), true);
                e.is("by the third one still", x.allow(third, other, false), true);
            }
        });
    }

    private void residents() {
        String what = "Returns how many persons live in a house whose way on a day ends in a house.";
        e.test(17, what, "by persons whose numbers are not those of the house", () -> {
            LetterRouter x = CROSSED.get();
            x.redirectPerson(3, 2, 6, 6);
            x.redirectPerson(0, 4, 6, 6);
            e.is("from 0 to 2", x.residents(0, 2, 6), 1);
            e.is("from 0 to 0", x.residents(0, 0, 6), 1);
            e.is("from 0 to 4", x.residents(0, 4, 6), 0);
            e.is("from 3 to 4", x.residents(3, 4, 6), 1);
            e.is("from 3 to 3", x.residents(3, 3, 6), 0);
            e.is("from 0 to 0 on day 5", x.residents(0, 0, 5), 2);
        });
    }

    private void signing() {
        e.test(TERMS, DeliveryEdges.NOTE, "person, weight, house, who signed it, day and tries all differ", () -> {
            LetterRouter x = CROSSED.get();
            x.pass(6);
            x.leave(3, 0, 365);
            x.leave(1, 6, 7);
            x.allow(3, 1, true);
            x.addLetter(3, 5, true);
            x.pass(3);
            e.is("letter 0", note(x, 0), "p3w5r>0/1@8x2");
            e.is("house", x.letter(0, 8), 0);
            e.is("signed by", x.letter(0, 9), 1);
            e.is("day", x.letter(0, 5), 8);
        });
    }

    private void newLetters() {
        String[] due = {"p1w2r?x1", "p2w2r?x1", "p3w2r?x1", "p4w2r<1@0", "p5w2r<2@0", "p0w2r?x1"};
        e.test(18, "Makes a letter.", "the others stay as they are, whatever its person and its weight", () -> {
            for (int made = 1; made <= 6; made++) {
                LetterRouter x = CROSSED.get();
                for (int person = 0; person < 6; person++) {
                    x.leave(person, 0, 1);
                    x.addLetter((person + 1) % 6, 2, true);
                }
                x.setLimit(5, 1);
                x.pass(1);
                x.addLetter(made - 1, made, false);
                for (int letter = 0; letter < 6; letter++) {
                    e.is("letter " + letter, note(x, letter), due[letter]);
                }
                e.is("the new one", note(x, 6), "p" + (made - 1) + "w" + made + "?");
            }
        });
    }

    private void deliveries() {
        e.test(23, LetterEdges.WHAT, "the house where the way ends on that day, and on no other one", () -> {
            LetterRouter x = CROSSED.get();
            x.pass(4);
            x.redirectPerson(3, 2, 5, 5);
            x.redirectHouse(2, 4, 5, 5);
            x.addLetter(2, 1, false);
            x.addLetter(1, 1, false);
            x.addLetter(3, 1, true);
            x.hold(3, 4);
            x.pass(2);
            e.is("house", x.letter(2, 8), 4);
            e.is("signed by", x.letter(2, 9), 3);
            e.is("day", x.letter(2, 5), 5);
            e.is("came on", x.letter(2, 3), 4);
            e.is("number", x.letter(2, 10), 2);
            e.is("house of letter 0", x.letter(0, 8), 4);
            e.is("house of letter 1", x.letter(1, 8), 0);
        });
    }

    private void deliveryOrder() {
        e.test(TERMS, DeliveryEdges.ORDER, "walk 1 with its first stop behind walk 0 with its 15th", () -> {
            LetterRouter x = new LetterRouter();
            x.addHouse(1, 1);
            for (int i = 1; i <= 15; i++) {
                x.addHouse(0, i);
            }
            x.addWalk(0, 2, 0, 1, 99);
            x.addWalk(1, 2, 0, 1, 99);
            x.addPerson(0);
            x.addPerson(15);
            x.addLetter(0, 9, false);
            x.addLetter(1, 1, false);
            x.pass(1);
            e.is("first", x.delivered(0), 1);
            e.is("second", x.delivered(1), 0);
        });
        e.test(TERMS, DeliveryEdges.ORDER, "the heaviest of a late stop behind the lightest of an early one", () -> {
            LetterRouter x = CROSSED.get();
            int[] persons = {0, 5, 1, 2, 3, 2};
            int[] weights = {1, 9, 2, 1, 2, 1};
            for (int i = 0; i < 6; i++) {
                x.addLetter(persons[i], weights[i], i % 2 == 1);
            }
            e.is("delivered", x.pass(1), 6);
            int[] due = {0, 3, 5, 2, 4, 1};
            for (int number = 0; number < 6; number++) {
                e.is("number " + number, x.delivered(number), due[number]);
            }
        });
    }

    private void meanDays() {
        String mean = "Returns the mean number of days from the day on which a letter came to that on which it was "
            + "delivered.";
        String divided = "Returns the sum divided by the number of letters that were delivered, both as doubles.";
        e.test(32, mean, "letters that came on days of their own", () -> {
            LetterRouter x = CROSSED.get();
            x.pass(2);
            x.addLetter(0, 1, false);
            x.pass(4);
            x.addLetter(1, 1, false);
            x.hold(1, 10);
            x.pass(3);
            x.addLetter(2, 1, false);
            x.hold(2, 9);
            x.pass(4);
            e.is("0, 5 and 1 by 3", x.meanDays(), 2.0);
        });
        e.test(32, divided, "only the last of four was delivered, a day behind", () -> {
            LetterRouter x = CROSSED.get();
            x.pass(1);
            x.setLimit(1, 0);
            x.hold(2, 365);
            for (int person : new int[] {1, 4, 2, 5}) {
                x.addLetter(person, 1, false);
            }
            x.hold(5, 1);
            x.pass(2);
            e.is("delivered", x.delivered(0), 3);
            e.is("1 by 1", x.meanDays(), 1.0);
        });
    }

    private void daysLeft() {
        String what = "Returns how many days it takes until a letter no longer waits, if nothing else is done.";
        e.test(27, what, "of the later one of two letters on hold", () -> {
            LetterRouter x = CROSSED.get();
            x.hold(2, 365);
            x.addLetter(2, 1, false);
            x.pass(7);
            x.addLetter(2, 1, false);
            e.is("the first", x.daysLeft(0), 24);
            e.is("the second", x.daysLeft(1), 31);
        });
        e.test(27, what, "of two letters with tries of their own", () -> {
            LetterRouter x = CROSSED.get();
            x.leave(2, 0, 365);
            x.addLetter(2, 1, true);
            x.pass(2);
            x.addLetter(2, 1, true);
            e.is("the first", x.daysLeft(0), 1);
            e.is("the second", x.daysLeft(1), 3);
            x.pass(1);
            e.is("the second a day later", x.daysLeft(1), 2);
        });
    }

    private void daysLeftOnChangingWays() {
        String what = "Returns how many days it takes until a letter no longer waits, if nothing else is done.";
        e.test(27, what, "the end of the way is not served on the day behind the hold", () -> {
            Supplier<LetterRouter> held = () -> {
                LetterRouter x = CROSSED.get();
                x.addLetter(1, 1, true);
                x.leave(1, 0, 365);
                x.hold(1, 2);
                return x;
            };
            e.is("served: three tries", held.get().daysLeft(0), 6);
            LetterRouter x = held.get();
            x.redirectPerson(1, 1, 3, 3);
            e.is("not served on day 3", x.daysLeft(0), 4);
            x.redirectPerson(1, 2, 3, 3);
            x.redirectHouse(0, 1, 4, 4);
            e.is("not served on day 4", x.daysLeft(0), 5);
            x.pass(5);
            e.is("note", note(x, 0), "p1w1r<1@4x1");
        });
        e.test(27, what, "the end of the way is served only on the day behind the hold", () -> {
            LetterRouter x = CROSSED.get();
            x.addLetter(4, 1, false);
            x.hold(4, 8);
            x.redirectHouse(1, 3, 9, 9);
            e.is("days", x.daysLeft(0), 10);
            x.pass(10);
            e.is("note", note(x, 0), "p4w1>3@9");
        });
        e.test(27, what, "one who can sign lives at the end of the way only on the second day", () -> {
            LetterRouter x = CROSSED.get();
            x.addLetter(1, 1, true);
            x.leave(1, 0, 365);
            x.allow(1, 5, true);
            x.redirectPerson(1, 2, 1, 1);
            e.is("days", x.daysLeft(0), 2);
            x.pass(2);
            e.is("note", note(x, 0), "p1w1r>2/5@1x1");
        });
    }

    private void undo() {
        String undoes = "Undoes the latest change that is kept.";
        String latest = "The office before each of the latest 8 changes is kept and can be undone; restore forgets "
            + "them.";
        e.test(33, undoes, "each of the 13, in an office that is not its snapshot: as if it had not been made", () -> {
            for (int i = 0; i < DeliveryEdges.CHANGES.length; i++) {
                Edges.Act act = DeliveryEdges.CHANGES[i];
                e.sameOffice("change " + i, () -> {
                    LetterRouter x = Scenes.LIVELY_READ.get();
                    act.on(x);
                    x.undo();
                    return x;
                }, Scenes.LIVELY_READ);
            }
        });
        e.test(33, undoes, "in a full office: as if it had not been made", () ->
            e.sameOffice("pass and undo", () -> {
                LetterRouter x = Scenes.FULL_READ.get();
                x.pass(60);
                x.undo();
                return x;
            }, Scenes.FULL_READ));
        e.test(TERMS, latest, "all 8: as if none of them had been made", () -> e.sameOffice("8 undone", () -> {
            LetterRouter x = Scenes.LIVELY_READ.get();
            for (int i = 3; i < 11; i++) {
                DeliveryEdges.CHANGES[i].on(x);
            }
            for (int i = 0; i < 8; i++) {
                x.undo();
            }
            return x;
        }, Scenes.LIVELY_READ));
    }

    private void restore() {
        String restores = "Restores what was saved; the snapshot is kept.";
        e.test(35, restores, "behind each of the 13 changes: as if none had been made", () -> {
            Supplier<LetterRouter> saved = () -> {
                LetterRouter x = Scenes.LIVELY_READ.get();
                x.save();
                return x;
            };
            e.sameOffice("lively", () -> {
                LetterRouter x = saved.get();
                for (Edges.Act act : DeliveryEdges.CHANGES) {
                    act.on(x);
                }
                x.restore();
                return x;
            }, saved);
        });
        e.test(35, restores, "a full office: as if nothing had been done since", () -> {
            Supplier<LetterRouter> saved = () -> {
                LetterRouter x = Scenes.FULL_READ.get();
                x.save();
                return x;
            };
            e.sameOffice("full", () -> {
                LetterRouter x = saved.get();
                x.pass(60);
                x.dropRedirect(4);
                x.leave(19, 0, 365);
                x.restore();
                return x;
            }, saved);
        });
    }

    private void walkComesBack() {
        Supplier<LetterRouter> walk = () -> {
            LetterRouter x = new LetterRouter();
            for (int number = 4; number <= 8; number++) {
                x.addHouse(3, number);
            }
            x.addWalk(3, 2, 1, 5, 7);
            return x;
        };
        e.test(33, "Undoes the latest change that is kept.", "a walk has its own numbers again", () -> {
            LetterRouter x = walk.get();
            x.addWalk(4, 0, 0, 9, 9);
            x.undo();
            servesThreeHouses(x);
        });
        e.test(35, "Restores what was saved; the snapshot is kept.", "a walk has its own numbers again", () -> {
            LetterRouter x = walk.get();
            x.save();
            x.undo();
            x.addWalk(4, 0, 0, 9, 9);
            x.restore();
            servesThreeHouses(x);
        });
    }

    private void servesThreeHouses(LetterRouter x) {
        int[] due = {-1, 0, 0, 0, -1};
        for (int house = 0; house < 5; house++) {
            e.is("house " + house, x.walkOf(house), due[house]);
        }
        e.is("first stop", x.stop(0, 0), 3);
        e.is("last stop", x.stop(0, 2), 1);
    }
}
