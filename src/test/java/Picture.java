import java.util.LinkedHashMap;
import java.util.Map;
import java.util.Set;
import java.util.function.Supplier;

/**
 * All that an office answers, told by calls of the face alone: two offices with the same picture are in the same state.
 * Each part asks an object of its own, made anew: asking changes some of them, and none may be asked more than 512
 * times.
 */
final class Picture {
    static final String FAULT = "faultPosition";
    static final String REFUSAL = "refusal";
    private static final String BUFFER = "buffer";
    private static final String ROOM = "room in the buffer";
    private static final String UNDONE = "undone ";
    private static final Set<String> LEFT = Set.of(FAULT, REFUSAL, BUFFER, ROOM);

    private static final int DAYS_OF_PART = 92;

    private interface Part {
        void tell(Picture p, LetterRouter x);
    }

    private final Supplier<LetterRouter> scene;
    private final Map<String, String> parts = new LinkedHashMap<>();
    private final int persons;
    private final int houses;
    private final int walks;
    private final int redirects;
    private final int letters;
    private StringBuilder out = new StringBuilder();

    private Picture(Supplier<LetterRouter> scene) {
        this.scene = scene;
        LetterRouter x = scene.get();
        houses = x.account(0);
        persons = x.account(1);
        walks = x.account(2);
        redirects = x.account(3);
        letters = x.account(4);
    }

    static Map<String, String> of(Supplier<LetterRouter> scene) {
        Picture p = new Picture(scene);
        p.tellAll();
        return p.parts;
    }

    /** Without what undo and restore leave, and without the changes that can be undone. */
    static Map<String, String> ofOffice(Supplier<LetterRouter> scene) {
        Map<String, String> parts = of(scene);
        parts.keySet().removeIf(name -> name.startsWith(UNDONE) || LEFT.contains(name));
        return parts;
    }

    private void part(String name, Part told) {
        out = new StringBuilder();
        told.tell(this, scene.get());
        parts.put(name, out.toString());
    }

    private void ask(Supplier<Object> call) {
        try {
            out.append(call.get());
        } catch (RuntimeException e) {
            out.append(e.getClass().getSimpleName());
        }
        out.append(' ');
    }

    private void tellAll() {
        part("accounts", Picture::accounts);
        part(FAULT, (p, x) -> p.ask(x::faultPosition));
        part(REFUSAL, (p, x) -> p.ask(x::refusal));
        part(BUFFER, Picture::buffer);
        part(ROOM, Picture::room);
        for (int s = 0; s < 5; s++) {
            int street = s;
            part("houses of street " + s, (p, x) -> p.housesOf(x, street));
        }
        part("walks", Picture::stops);
        part("next walk", (p, x) -> p.ask(() -> x.addWalk(0, 2, 0, 1, 99)));
        part("holds and limits", Picture::holdsAndLimits);
        part("absences", Picture::absences);
        for (int i = 0; i < persons; i++) {
            int person = i;
            part("allowed by " + i, (p, x) -> p.allowed(x, person));
            for (int d = 0; d <= 366; d += DAYS_OF_PART) {
                int from = d;
                part("person " + i + " from day " + d, (p, x) -> p.days(x, person, from));
            }
        }
        for (int i = 0; i < letters; i += 10) {
            int from = i;
            part("letters from " + i, (p, x) -> p.lettersFrom(x, from));
        }
        part("deliveries", Picture::deliveries);
        for (int i = 0; i <= redirects; i++) {
            int redirect = i;
            part("without redirect " + i, (p, x) -> p.dropped(x, redirect));
        }
        for (int i = 0; i <= 9; i++) {
            int times = i;
            part(UNDONE + i + " times", (p, x) -> p.undone(x, times));
        }
        part("restored", Picture::restored);
        part("days to come", Picture::daysToCome);
    }

    private void accounts(LetterRouter x) {
        for (int w = 0; w <= 10; w++) {
            int what = w;
            ask(() -> x.account(what));
        }
        for (int r = 1; r <= 4; r++) {
            int reason = r;
            ask(() -> x.returned(reason));
        }
        ask(x::meanDays);
        ask(x::today);
    }

    /** The kept reason is told only if it is this text that was refused. */
    private void buffer(LetterRouter x) {
        String answer;
        try {
            answer = "letters " + x.arrive();
        } catch (IllegalArgumentException e) {
            answer = "fault at " + x.faultPosition();
        } catch (UnsupportedOperationException e) {
            answer = "reason " + x.refusal();
        }
        out.append(answer).append(' ');
        for (int i = letters; i < x.account(4); i++) {
            out.append(noteOf(x, i)).append(' ');
        }
    }

    private void room(LetterRouter x) {
        for (int i = 0; i < 41; i++) {
            ask(() -> {
                x.append('x');
                return "";
            });
        }
    }

    /** A house that exists is an argument that is not allowed, any other one is made or is one too many. */
    private void housesOf(LetterRouter x, int street) {
        for (int n = 1; n <= 99; n++) {
            int number = n;
            ask(() -> x.addHouse(street, number));
        }
    }

    private void stops(LetterRouter x) {
        for (int i = 0; i < houses; i++) {
            int house = i;
            ask(() -> x.walkOf(house));
            ask(() -> x.stopIndex(house));
        }
        for (int i = 0; i < walks; i++) {
            int walk = i;
            for (int j = 0; j < 17; j++) {
                int index = j;
                ask(() -> x.stop(walk, index));
            }
        }
    }

    private void holdsAndLimits(LetterRouter x) {
        for (int i = 0; i < persons; i++) {
            int person = i;
            ask(() -> x.hold(person, -1));
            ask(() -> x.setLimit(person, 9));
        }
    }

    private void allowed(LetterRouter x, int person) {
        for (int i = 0; i < persons; i++) {
            int other = i;
            ask(() -> x.allow(person, other, false));
        }
    }

    /** Those that are kept go one by one, the oldest first. */
    private void absences(LetterRouter x) {
        for (int i = 0; i < 20; i++) {
            ask(() -> x.leave(0, 365, 365));
            for (int p = 0; p < Math.min(persons, 6); p++) {
                int person = p;
                ask(() -> x.signer(person, 4));
            }
        }
    }

    private void days(LetterRouter x, int person, int from) {
        for (int d = from; d < Math.min(from + DAYS_OF_PART, 367); d++) {
            int day = d;
            ask(() -> x.way(person, day, 0));
            ask(() -> x.way(person, day, -1));
            ask(() -> x.signer(person, day));
        }
    }

    private void lettersFrom(LetterRouter x, int from) {
        for (int i = from; i < Math.min(from + 10, letters); i++) {
            int letter = i;
            for (int w = 0; w <= 10; w++) {
                int what = w;
                ask(() -> x.letter(letter, what));
            }
            out.append(noteOf(x, i)).append(' ');
            ask(() -> x.daysLeft(letter));
        }
    }

    private void deliveries(LetterRouter x) {
        for (int i = 0; i < 30; i++) {
            int number = i;
            ask(() -> x.delivered(number));
        }
    }

    private void dropped(LetterRouter x, int redirect) {
        ask(() -> x.dropRedirect(redirect));
        brief(x);
    }

    private void undone(LetterRouter x, int times) {
        for (int i = 0; i < times; i++) {
            ask(x::undo);
        }
        brief(x);
    }

    private void restored(LetterRouter x) {
        ask(() -> {
            x.restore();
            return "restored";
        });
        ask(x::undo);
        brief(x);
    }

    private void daysToCome(LetterRouter x) {
        ask(() -> x.pass(1));
        ask(() -> x.pass(60));
        brief(x);
    }

    private void brief(LetterRouter x) {
        accounts(x);
        for (int i = 0; i < persons; i++) {
            int person = i;
            for (int day : new int[] {0, 4, 45, 365}) {
                ask(() -> x.way(person, day, -1));
            }
            ask(() -> x.signer(person, 4));
        }
        for (int i = 0; i < letters; i++) {
            int letter = i;
            ask(() -> x.letter(letter, 4));
            ask(() -> x.letter(letter, 7));
        }
    }

    static String noteOf(LetterRouter x, int letter) {
        StringBuilder note = new StringBuilder();
        int length = x.noteLength(letter);
        for (int i = 0; i < length; i++) {
            note.append(x.note(letter, i));
        }
        return note.toString();
    }
}
