import java.util.ArrayDeque;
import java.util.ArrayList;
import java.util.Comparator;
import java.util.Deque;
import java.util.HashSet;
import java.util.List;
import java.util.NoSuchElementException;
import java.util.Set;
import java.util.regex.Pattern;

/**
 * A second office, told straight from the document and without regard to cost: days are tried one by one,
 * orders are sorted by comparators, texts are matched by patterns. Runs compare it with LetterRouter.
 */
final class Model {
    record House(int street, int number) { }

    record Walk(int street, int side, int direction, int first, int last) { }

    record Redirect(boolean ofHouse, int from, int to, int first, int last) { }

    record Absence(int person, int first, int last) { }

    static final class Person {
        int home;
        int hold = -1;
        int limit = 9;
        Set<Integer> allowed = new HashSet<>();

        Person copy() {
            Person p = new Person();
            p.home = home;
            p.hold = hold;
            p.limit = limit;
            p.allowed = new HashSet<>(allowed);
            return p;
        }
    }

    static final class Letter {
        int person;
        int weight;
        boolean registered;
        int came;
        int state = 0;
        int ended = -1;
        int reason = -1;
        int tries = 0;
        int house = -1;
        int signer = -1;
        int number = -1;

        Letter copy() {
            Letter l = new Letter();
            l.person = person;
            l.weight = weight;
            l.registered = registered;
            l.came = came;
            l.state = state;
            l.ended = ended;
            l.reason = reason;
            l.tries = tries;
            l.house = house;
            l.signer = signer;
            l.number = number;
            return l;
        }
    }

    static final class Office {
        List<House> houses = new ArrayList<>();
        List<Person> persons = new ArrayList<>();
        List<Walk> walks = new ArrayList<>();
        List<Redirect> redirects = new ArrayList<>();
        List<Absence> absences = new ArrayList<>();
        List<Letter> letters = new ArrayList<>();
        int today = 0;
        int deliveries = 0;

        Office copy() {
            Office o = new Office();
            o.houses.addAll(houses);
            for (Person p : persons) {
                o.persons.add(p.copy());
            }
            o.walks.addAll(walks);
            o.redirects.addAll(redirects);
            o.absences.addAll(absences);
            for (Letter l : letters) {
                o.letters.add(l.copy());
            }
            o.today = today;
            o.deliveries = deliveries;
            return o;
        }
    }

    Office o = new Office();
    private final Deque<Office> before = new ArrayDeque<>();
    private Office snapshot = null;
    private String buffer = "";
    private int fault = -1;
    private int reason = 0;

    private void change() {
        before.addLast(o.copy());
        if (before.size() > 8) {
            before.removeFirst();
        }
    }

    private static void index(boolean ok) {
        if (!ok) {
            throw new IndexOutOfBoundsException();
        }
    }

    private static void argument(boolean ok) {
        if (!ok) {
            throw new IllegalArgumentException();
        }
    }

    private static void state(boolean ok) {
        if (!ok) {
            throw new IllegalStateException();
        }
    }

    private static void exists(boolean ok) {
        if (!ok) {
            throw new NoSuchElementException();
        }
    }

    private void unrefused(boolean ok, int why) {
        if (!ok) {
            reason = why;
            throw new UnsupportedOperationException();
        }
    }

    private static boolean in(int i, int size) {
        return 0 <= i && i < size;
    }

    private boolean isHouse(int h) {
        return in(h, o.houses.size());
    }

    private boolean isPerson(int p) {
        return in(p, o.persons.size());
    }

    private static boolean areDays(int first, int last) {
        return 0 <= first && first <= last && last <= 365;
    }

    int addHouse(int street, int number) {
        argument(in(street, 5) && 1 <= number && number <= 99);
        argument(!o.houses.contains(new House(street, number)));
        state(o.houses.size() < 16);
        change();
        o.houses.add(new House(street, number));
        return o.houses.size() - 1;
    }

    int addPerson(int house) {
        index(isHouse(house));
        state(o.persons.size() < 20);
        change();
        Person p = new Person();
        p.home = house;
        o.persons.add(p);
        return o.persons.size() - 1;
    }

    int addWalk(int street, int side, int direction, int first, int last) {
        argument(in(street, 5) && in(side, 3) && in(direction, 2));
        argument(1 <= first && first <= last && last <= 99);
        state(o.walks.size() < 10);
        change();
        o.walks.add(new Walk(street, side, direction, first, last));
        return stops(o.walks.size() - 1).size();
    }

    private int serving(int house) {
        House h = o.houses.get(house);
        for (int w = 0; w < o.walks.size(); w++) {
            Walk walk = o.walks.get(w);
            boolean side = walk.side == 2 || walk.side == 0 && h.number % 2 == 0
                || walk.side == 1 && h.number % 2 == 1;
            if (walk.street == h.street && side && walk.first <= h.number && h.number <= walk.last) {
                return w;
            }
        }
        return -1;
    }

    private List<Integer> stops(int walk) {
        List<Integer> found = new ArrayList<>();
        for (int h = 0; h < o.houses.size(); h++) {
            if (serving(h) == walk) {
                found.add(h);
            }
        }
        int sign = o.walks.get(walk).direction == 0 ? 1 : -1;
        found.sort(Comparator.comparingInt(h -> sign * o.houses.get(h).number));
        return found;
    }

    int walkOf(int house) {
        index(isHouse(house));
        return serving(house);
    }

    int stop(int walk, int i) {
        index(in(walk, o.walks.size()));
        exists(in(i, stops(walk).size()));
        return stops(walk).get(i);
    }

    int stopIndex(int house) {
        index(isHouse(house));
        exists(serving(house) >= 0);
        return stops(serving(house)).indexOf(house);
    }

    private static Redirect counting(List<Redirect> all, boolean ofHouse, int from, int day) {
        Redirect found = null;
        for (Redirect r : all) {
            if (r.ofHouse == ofHouse && r.from == from && r.first <= day && day <= r.last) {
                found = r;
            }
        }
        return found;
    }

    private boolean leadsRound(List<Redirect> all) {
        for (int day = 0; day <= 365; day++) {
            for (int h = 0; h < o.houses.size(); h++) {
                Set<Integer> seen = new HashSet<>();
                int at = h;
                while (seen.add(at)) {
                    Redirect r = counting(all, true, at, day);
                    if (r == null) {
                        at = -1;
                        break;
                    }
                    at = r.to;
                }
                if (at >= 0) {
                    return true;
                }
            }
        }
        return false;
    }

    int redirectPerson(int person, int house, int first, int last) {
        index(isPerson(person) && isHouse(house));
        argument(areDays(first, last));
        unrefused(o.redirects.size() < 12, 1);
        change();
        o.redirects.add(new Redirect(false, person, house, first, last));
        return o.redirects.size() - 1;
    }

    int redirectHouse(int from, int to, int first, int last) {
        index(isHouse(from) && isHouse(to));
        argument(areDays(first, last));
        unrefused(o.redirects.size() < 12, 1);
        List<Redirect> all = new ArrayList<>(o.redirects);
        all.add(new Redirect(true, from, to, first, last));
        unrefused(!leadsRound(all), 2);
        change();
        o.redirects = all;
        return all.size() - 1;
    }

    int dropRedirect(int redirect) {
        index(in(redirect, o.redirects.size()));
        List<Redirect> all = new ArrayList<>(o.redirects);
        all.remove(redirect);
        unrefused(!leadsRound(all), 2);
        change();
        o.redirects = all;
        return all.size();
    }

    private List<Integer> wholeWay(int person, int day) {
        List<Integer> found = new ArrayList<>();
        Redirect r = counting(o.redirects, false, person, day);
        int at = r == null ? o.persons.get(person).home : r.to;
        found.add(at);
        for (r = counting(o.redirects, true, at, day); r != null; r = counting(o.redirects, true, at, day)) {
            at = r.to;
            found.add(at);
        }
        return found;
    }

    private int end(int person, int day) {
        List<Integer> all = wholeWay(person, day);
        return all.get(all.size() - 1);
    }

    int way(int person, int day, int i) {
        index(isPerson(person));
        argument(in(day, 366) && i >= -1);
        if (i == -1) {
            return end(person, day);
        }
        exists(i < wholeWay(person, day).size());
        return wholeWay(person, day).get(i);
    }

    int hold(int person, int last) {
        index(isPerson(person));
        argument(-1 <= last && last <= 365);
        change();
        int was = o.persons.get(person).hold;
        o.persons.get(person).hold = last;
        return was;
    }

    boolean allow(int person, int other, boolean isAllowed) {
        index(isPerson(person) && isPerson(other));
        argument(person != other);
        change();
        Set<Integer> allowed = o.persons.get(person).allowed;
        boolean was = allowed.contains(other);
        allowed.remove(other);
        if (isAllowed) {
            allowed.add(other);
        }
        return was;
    }

    int setLimit(int person, int limit) {
        index(isPerson(person));
        argument(in(limit, 10));
        change();
        int was = o.persons.get(person).limit;
        o.persons.get(person).limit = limit;
        return was;
    }

    int leave(int person, int first, int last) {
        index(isPerson(person));
        argument(areDays(first, last));
        change();
        o.absences.add(new Absence(person, first, last));
        if (o.absences.size() > 20) {
            o.absences.remove(0);
        }
        return o.absences.size();
    }

    private boolean present(int person, int day) {
        return o.absences.stream().noneMatch(a -> a.person == person && a.first <= day && day <= a.last);
    }

    private int signing(int person, int day) {
        if (present(person, day)) {
            return person;
        }
        for (int p = 0; p < o.persons.size(); p++) {
            boolean allowed = o.persons.get(person).allowed.contains(p);
            if (allowed && o.persons.get(p).home == end(person, day) && present(p, day)) {
                return p;
            }
        }
        return -1;
    }

    int signer(int person, int day) {
        index(isPerson(person));
        argument(in(day, 366));
        exists(signing(person, day) >= 0);
        return signing(person, day);
    }

    int residents(int house, int end, int day) {
        index(isHouse(house) && isHouse(end));
        argument(in(day, 366));
        int found = 0;
        for (int p = 0; p < o.persons.size(); p++) {
            found += o.persons.get(p).home == house && end(p, day) == end ? 1 : 0;
        }
        return found;
    }

    private void make(int person, int weight, boolean registered) {
        Letter l = new Letter();
        l.person = person;
        l.weight = weight;
        l.registered = registered;
        l.came = o.today;
        o.letters.add(l);
    }

    int addLetter(int person, int weight, boolean isRegistered) {
        index(isPerson(person));
        argument(1 <= weight && weight <= 9);
        unrefused(o.letters.size() < 30, 1);
        change();
        make(person, weight, isRegistered);
        return o.letters.size() - 1;
    }

    void append(char c) {
        state(buffer.length() < 40);
        buffer += c;
    }

    private static final String ONE = "p(0|[1-9][0-9]?)(w[1-9])?r?";
    private static final Pattern TEXT = Pattern.compile(ONE + "(," + ONE + ")*");

    /** Whether the text can be continued, or is one: tried by appending what may be lacking. */
    private static boolean canContinue(String start) {
        for (String rest : new String[] {"", "p0", "0", "1"}) {
            if (TEXT.matcher(start + rest).matches()) {
                return true;
            }
        }
        return false;
    }

    int arrive() {
        String text = buffer;
        buffer = "";
        fault = -1;
        if (!TEXT.matcher(text).matches()) {
            fault = text.length();
            for (int i = text.length(); i >= 1; i--) {
                if (!canContinue(text.substring(0, i))) {
                    fault = i - 1;
                }
            }
            throw new IllegalArgumentException();
        }
        String[] parts = text.split(",");
        for (int i = 0; i < parts.length; i++) {
            unrefused(o.letters.size() + i < 30, 1);
            unrefused(isPerson(personIn(parts[i])), 3);
        }
        change();
        for (String part : parts) {
            int w = part.indexOf('w');
            make(personIn(part), w < 0 ? 1 : part.charAt(w + 1) - '0', part.endsWith("r"));
        }
        return parts.length;
    }

    private static int personIn(String part) {
        return Integer.parseInt(part.substring(1).split("[wr]")[0]);
    }

    int faultPosition() {
        return fault;
    }

    int refusal() {
        exists(reason != 0);
        return reason;
    }

    private Letter at(int letter) {
        index(in(letter, o.letters.size()));
        return o.letters.get(letter);
    }

    int letter(int letter, int what) {
        Letter l = at(letter);
        argument(in(what, 11));
        int[] all = {l.person, l.weight, l.registered ? 1 : 0, l.came, l.state, l.ended, l.reason, l.tries, l.house,
            l.signer, l.number};
        return all[what];
    }

    private String noteOf(int letter) {
        Letter l = at(letter);
        String end = "?";
        if (l.state == 1) {
            end = ">" + l.house + (l.registered ? "/" + l.signer : "") + "@" + l.ended;
        }
        if (l.state == 2) {
            end = "<" + l.reason + "@" + l.ended;
        }
        return "p" + l.person + "w" + l.weight + (l.registered ? "r" : "") + end + (l.tries > 0 ? "x" + l.tries : "");
    }

    int noteLength(int letter) {
        return noteOf(letter).length();
    }

    char note(int letter, int i) {
        String n = noteOf(letter);
        exists(in(i, n.length()));
        return n.charAt(i);
    }

    int delivered(int number) {
        for (int i = 0; i < o.letters.size(); i++) {
            if (number >= 0 && o.letters.get(i).number == number) {
                return i;
            }
        }
        throw new NoSuchElementException();
    }

    int daysLeft(int letter) {
        state(at(letter).state == 0);
        Office kept = o;
        o = o.copy();
        int days = 0;
        while (o.letters.get(letter).state == 0 && o.today < 365) {
            goByOneDay();
            days++;
        }
        boolean isDone = o.letters.get(letter).state != 0;
        o = kept;
        exists(isDone);
        return days;
    }

    private void goByOneDay() {
        int day = o.today;
        List<Letter> out = new ArrayList<>();
        for (Letter l : o.letters) {
            Person p = o.persons.get(l.person);
            if (l.state != 0 || day <= p.hold) {
                continue;
            }
            if (serving(end(l.person, day)) < 0) {
                sendBack(l, 1);
            } else if (l.weight > p.limit) {
                sendBack(l, 2);
            } else if (!l.registered || signing(l.person, day) >= 0) {
                out.add(l);
            } else {
                l.tries++;
                if (l.tries == 3) {
                    sendBack(l, 3);
                }
            }
        }
        out.sort(Comparator.<Letter>comparingInt(l -> serving(end(l.person, day)))
            .thenComparingInt(l -> stops(serving(end(l.person, day))).indexOf(end(l.person, day)))
            .thenComparingInt(l -> -l.weight));
        for (Letter l : out) {
            l.state = 1;
            l.ended = day;
            l.house = end(l.person, day);
            l.signer = l.registered ? signing(l.person, day) : -1;
            l.number = o.deliveries++;
        }
        for (Letter l : o.letters) {
            if (l.state == 0 && l.came + 30 <= day) {
                sendBack(l, 4);
            }
        }
        o.today++;
    }

    private void sendBack(Letter l, int why) {
        l.state = 2;
        l.ended = o.today;
        l.reason = why;
    }

    int pass(int days) {
        argument(1 <= days && days <= 60 && o.today + days <= 365);
        change();
        int was = o.deliveries;
        for (int i = 0; i < days; i++) {
            goByOneDay();
        }
        return o.deliveries - was;
    }

    int today() {
        return o.today;
    }

    int account(int what) {
        argument(in(what, 11));
        int unserved = 0;
        for (int h = 0; h < o.houses.size(); h++) {
            unserved += serving(h) < 0 ? 1 : 0;
        }
        int weight = 0;
        int tries = 0;
        int[] states = new int[3];
        for (Letter l : o.letters) {
            weight += l.state == 0 ? l.weight : 0;
            tries += l.tries;
            states[l.state]++;
        }
        int[] all = {o.houses.size(), o.persons.size(), o.walks.size(), o.redirects.size(), o.letters.size(),
            states[0], states[1], states[2], weight, unserved, tries};
        return all[what];
    }

    int returned(int why) {
        argument(1 <= why && why <= 4);
        return (int) o.letters.stream().filter(l -> l.reason == why).count();
    }

    double meanDays() {
        double sum = 0;
        double count = 0;
        for (Letter l : o.letters) {
            if (l.state == 1) {
                sum += l.ended - l.came;
                count++;
            }
        }
        if (count == 0) {
            throw new ArithmeticException();
        }
        return sum / count;
    }

    int undo() {
        state(!before.isEmpty());
        o = before.removeLast();
        return before.size();
    }

    void save() {
        snapshot = o.copy();
    }

    void restore() {
        state(snapshot != null);
        o = snapshot.copy();
        before.clear();
    }
}
