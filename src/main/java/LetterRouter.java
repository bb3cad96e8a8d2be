import java.util.NoSuchElementException;

/** A sorter of letters: houses, persons, walks, redirects, holds, letters, days and undo. */
public final class LetterRouter {
    private static final int NONE = -1;

    private static final int STREETS = 5;
    private static final int FIRST_NUMBER = 1;
    private static final int LAST_NUMBER = 99;
    private static final int LAST_DAY = 365;
    private static final int LONGEST_PASS = 60;

    private static final int MAX_HOUSES = 16;
    private static final int MAX_PERSONS = 20;
    private static final int MAX_WALKS = 10;
    private static final int MAX_REDIRECTS = 12;
    private static final int MAX_ABSENCES = 20;
    private static final int MAX_LETTERS = 30;
    private static final int MAX_UNDONE = 8;
    private static final int MAX_TEXT = 40;

    private static final int LIGHTEST = 1;
    private static final int HEAVIEST = 9;
    private static final int LAST_TRY = 3;
    private static final int LONGEST_WAIT = 30;

    private static final int EVEN_SIDE = 0;
    private static final int ODD_SIDE = 1;
    private static final int BOTH_SIDES = 2;
    private static final int ASCENDING = 0;
    private static final int DESCENDING = 1;

    private static final int OF_PERSON = 0;
    private static final int OF_HOUSE = 1;

    private static final int WAITING = 0;
    private static final int DELIVERED = 1;
    private static final int RETURNED = 2;

    // What a day does to a waiting letter: 1 to 4 are the reasons for a return.
    private static final int LEFT = 0;
    private static final int NOT_SERVED = 1;
    private static final int TOO_HEAVY = 2;
    private static final int NOT_SIGNED = 3;
    private static final int TOO_OLD = 4;
    private static final int HANDED_OVER = 5;

    private static final int REFUSED_FULL = 1;
    private static final int REFUSED_ROUND = 2;
    private static final int REFUSED_PERSON = 3;

    private final Office office = new Office();
    private final History history = new History();
    private final Office snapshot = new Office();
    private boolean hasSnapshot = false;
    private final ArrivalText text = new ArrivalText();
    private int latestFault = NONE;
    private int latestReason = NONE;

    public LetterRouter() {
    }

    // Houses, persons and walks.

    public int addHouse(int street, int number) throws IllegalArgumentException, IllegalStateException {
        if (!isStreet(street) || !isHouseNumber(number)) {
            throw new IllegalArgumentException("the street or the house number is out of range");
        }
        if (office.houses.contains(street, number)) {
            throw new IllegalArgumentException("there is such a house");
        }
        if (office.houses.count >= MAX_HOUSES) {
            throw new IllegalStateException("16 houses were made");
        }
        history.keep(office);
        return office.houses.add(street, number);
    }

    public int addPerson(int house) throws IndexOutOfBoundsException, IllegalStateException {
        requireHouse(house);
        if (office.persons.count >= MAX_PERSONS) {
            throw new IllegalStateException("20 persons were made");
        }
        history.keep(office);
        return office.persons.add(house);
    }

    public int addWalk(int street, int side, int direction, int first, int last)
            throws IllegalArgumentException, IllegalStateException {
        if (!isStreet(street) || !isBetween(side, EVEN_SIDE, BOTH_SIDES)) {
            throw new IllegalArgumentException("the street or the side is out of range");
        }
        if (!isBetween(direction, ASCENDING, DESCENDING)) {
            throw new IllegalArgumentException("the direction is out of range");
        }
        if (!isHouseNumber(first) || !isHouseNumber(last) || first > last) {
            throw new IllegalArgumentException("the house numbers are out of range or out of order");
        }
        if (office.walks.count >= MAX_WALKS) {
            throw new IllegalStateException("10 walks were made");
        }
        history.keep(office);
        int walk = office.walks.add(street, side, direction, first, last);
        return office.countServedBy(walk);
    }

    public int walkOf(int house) throws IndexOutOfBoundsException {
        requireHouse(house);
        return office.walkServing(house);
    }

    public int stop(int walk, int index) throws IndexOutOfBoundsException, NoSuchElementException {
        if (!isBelow(walk, office.walks.count)) {
            throw new IndexOutOfBoundsException("there is no such walk");
        }
        int house = office.houseAtStop(walk, index);
        if (house == NONE) {
            throw new NoSuchElementException("there is no such stop");
        }
        return house;
    }

    public int stopIndex(int house) throws IndexOutOfBoundsException, NoSuchElementException {
        requireHouse(house);
        if (office.walkServing(house) == NONE) {
            throw new NoSuchElementException("no walk serves the house");
        }
        return office.stopPosition(house);
    }

    // Redirects, holds and signing.

    public int redirectPerson(int person, int house, int first, int last)
            throws IndexOutOfBoundsException, IllegalArgumentException, UnsupportedOperationException {
        requirePerson(person);
        requireHouse(house);
        requireDays(first, last);
        if (office.redirects.count >= MAX_REDIRECTS) {
            refuse(REFUSED_FULL);
        }
        history.keep(office);
        return office.redirects.add(OF_PERSON, person, house, first, last);
    }

    public int redirectHouse(int from, int to, int first, int last)
            throws IndexOutOfBoundsException, IllegalArgumentException, UnsupportedOperationException {
        requireHouse(from);
        requireHouse(to);
        requireDays(first, last);
        if (office.redirects.count >= MAX_REDIRECTS) {
            refuse(REFUSED_FULL);
        }
        if (office.redirects.wouldLeadRoundWith(from, to, first, last)) {
            refuse(REFUSED_ROUND);
        }
        history.keep(office);
        return office.redirects.add(OF_HOUSE, from, to, first, last);
    }

    public int dropRedirect(int redirect) throws IndexOutOfBoundsException, UnsupportedOperationException {
        if (!isBelow(redirect, office.redirects.count)) {
            throw new IndexOutOfBoundsException("there is no such redirect");
        }
        if (office.redirects.leadRoundWithout(redirect)) {
            refuse(REFUSED_ROUND);
        }
        history.keep(office);
        office.redirects.remove(redirect);
        return office.redirects.count;
    }

    public int way(int person, int day, int index)
            throws IndexOutOfBoundsException, IllegalArgumentException, NoSuchElementException {
        requirePerson(person);
        requireDay(day);
        if (index < NONE) {
            throw new IllegalArgumentException("the index is below -1");
        }
        int house = index == NONE ? office.endOfWay(person, day) : office.houseOnWay(person, day, index);
        if (house == NONE) {
            throw new NoSuchElementException("the way is not so long");
        }
        return house;
    }

    public int hold(int person, int last) throws IndexOutOfBoundsException, IllegalArgumentException {
        requirePerson(person);
        if (!isBetween(last, NONE, LAST_DAY)) {
            throw new IllegalArgumentException("the last day is not from -1 to 365");
        }
        history.keep(office);
        int before = office.persons.heldUntil[person];
        office.persons.heldUntil[person] = last;
        return before;
    }

    public boolean allow(int person, int other, boolean isAllowed)
            throws IndexOutOfBoundsException, IllegalArgumentException {
        requirePerson(person);
        requirePerson(other);
        if (person == other) {
            throw new IllegalArgumentException("both persons are the same");
        }
        history.keep(office);
        boolean wasAllowed = office.persons.hasAllowed(person, other);
        office.persons.setAllowed(person, other, isAllowed);
        return wasAllowed;
    }

    public int setLimit(int person, int limit) throws IndexOutOfBoundsException, IllegalArgumentException {
        requirePerson(person);
        if (!isBetween(limit, 0, HEAVIEST)) {
            throw new IllegalArgumentException("the limit is out of range");
        }
        history.keep(office);
        int before = office.persons.limit[person];
        office.persons.limit[person] = limit;
        return before;
    }

    public int leave(int person, int first, int last) throws IndexOutOfBoundsException, IllegalArgumentException {
        requirePerson(person);
        requireDays(first, last);
        history.keep(office);
        office.absences.add(person, first, last);
        return office.absences.count;
    }

    public int signer(int person, int day)
            throws IndexOutOfBoundsException, IllegalArgumentException, NoSuchElementException {
        requirePerson(person);
        requireDay(day);
        int signing = office.whoSigns(person, day);
        if (signing == NONE) {
            throw new NoSuchElementException("nobody would sign");
        }
        return signing;
    }

    // Letters.

    public int residents(int house, int end, int day) throws IndexOutOfBoundsException, IllegalArgumentException {
        requireHouse(house);
        requireHouse(end);
        requireDay(day);
        return office.countResidents(house, end, day);
    }

    public int addLetter(int person, int weight, boolean isRegistered)
            throws IndexOutOfBoundsException, IllegalArgumentException, UnsupportedOperationException {
        requirePerson(person);
        if (!isBetween(weight, LIGHTEST, HEAVIEST)) {
            throw new IllegalArgumentException("the weight is out of range");
        }
        if (office.letters.count >= MAX_LETTERS) {
            refuse(REFUSED_FULL);
        }
        history.keep(office);
        return office.letters.add(person, weight, isRegistered ? 1 : 0, office.day);
    }

    public void append(char c) throws IllegalStateException {
        if (text.length >= MAX_TEXT) {
            throw new IllegalStateException("the buffer contains 40 characters");
        }
        text.put(c);
    }

    public int arrive() throws IllegalArgumentException, UnsupportedOperationException {
        latestFault = text.read();
        text.empty();
        if (latestFault != NONE) {
            throw new IllegalArgumentException("the text has a fault");
        }
        int reason = reasonAgainstText();
        if (reason != NONE) {
            refuse(reason);
        }
        history.keep(office);
        for (int i = 0; i < text.letters; i++) {
            office.letters.add(text.person[i], text.weight[i], text.registered[i], office.day);
        }
        return text.letters;
    }

    public int faultPosition() {
        return latestFault;
    }

    public int refusal() throws NoSuchElementException {
        if (latestReason == NONE) {
            throw new NoSuchElementException("no call was refused");
        }
        return latestReason;
    }

    public int letter(int letter, int what) throws IndexOutOfBoundsException, IllegalArgumentException {
        requireLetter(letter);
        if (!isBetween(what, 0, 10)) {
            throw new IllegalArgumentException("what is not from 0 to 10");
        }
        return office.letters.numberOf(letter, what);
    }

    public int noteLength(int letter) throws IndexOutOfBoundsException {
        requireLetter(letter);
        return office.letters.writeNote(letter).length();
    }

    public char note(int letter, int index) throws IndexOutOfBoundsException, NoSuchElementException {
        requireLetter(letter);
        StringBuilder written = office.letters.writeNote(letter);
        if (!isBelow(index, written.length())) {
            throw new NoSuchElementException("there is no such index");
        }
        return written.charAt(index);
    }

    public int delivered(int number) throws NoSuchElementException {
        if (!isBelow(number, office.letters.deliveries)) {
            throw new NoSuchElementException("there is no such delivery");
        }
        return office.letters.deliveredAs[number];
    }

    public int daysLeft(int letter)
            throws IndexOutOfBoundsException, IllegalStateException, NoSuchElementException {
        requireLetter(letter);
        if (office.letters.state[letter] != WAITING) {
            throw new IllegalStateException("the letter does not wait");
        }
        int days = office.forecast(letter);
        if (days == NONE) {
            throw new NoSuchElementException("the letter still waits when day 365 is today");
        }
        return days;
    }

    // Days and accounts.

    public int pass(int days) throws IllegalArgumentException {
        if (!isBetween(days, 1, LONGEST_PASS) || office.day + days > LAST_DAY) {
            throw new IllegalArgumentException("so many days cannot go by");
        }
        history.keep(office);
        int before = office.letters.deliveries;
        for (int i = 0; i < days; i++) {
            office.endDay();
        }
        return office.letters.deliveries - before;
    }

    public int today() {
        return office.day;
    }

    public int account(int what) throws IllegalArgumentException {
        switch (what) {
            case 0: return office.houses.count;
            case 1: return office.persons.count;
            case 2: return office.walks.count;
            case 3: return office.redirects.count;
            case 4: return office.letters.count;
            case 5: return office.letters.countInState(WAITING);
            case 6: return office.letters.countInState(DELIVERED);
            case 7: return office.letters.countInState(RETURNED);
            case 8: return office.letters.waitingWeight();
            case 9: return office.countServedBy(NONE);
            case 10: return office.letters.allTries();
            default: throw new IllegalArgumentException("there is no such account");
        }
    }

    public int returned(int reason) throws IllegalArgumentException {
        if (!isBetween(reason, NOT_SERVED, TOO_OLD)) {
            throw new IllegalArgumentException("there is no such reason");
        }
        return office.letters.countReturnedFor(reason);
    }

    public double meanDays() throws ArithmeticException {
        int count = office.letters.deliveries;
        if (count == 0) {
            throw new ArithmeticException("no letter was delivered");
        }
        return (double) office.letters.daysToDeliveries() / (double) count;
    }

    public int undo() throws IllegalStateException {
        if (history.count == 0) {
            throw new IllegalStateException("no change is kept");
        }
        history.takeBack(office);
        return history.count;
    }

    public void save() {
        snapshot.copyFrom(office);
        hasSnapshot = true;
    }

    public void restore() throws IllegalStateException {
        if (!hasSnapshot) {
            throw new IllegalStateException("there is no snapshot");
        }
        office.copyFrom(snapshot);
        history.forget();
    }

    // What several calls test.

    private void requireHouse(int house) {
        if (!isBelow(house, office.houses.count)) {
            throw new IndexOutOfBoundsException("there is no such house");
        }
    }

    private void requirePerson(int person) {
        if (!isBelow(person, office.persons.count)) {
            throw new IndexOutOfBoundsException("there is no such person");
        }
    }

    private void requireLetter(int letter) {
        if (!isBelow(letter, office.letters.count)) {
            throw new IndexOutOfBoundsException("there is no such letter");
        }
    }

    private static void requireDay(int day) {
        if (!isBetween(day, 0, LAST_DAY)) {
            throw new IllegalArgumentException("there is no such day");
        }
    }

    private static void requireDays(int first, int last) {
        if (first < 0 || first > last || last > LAST_DAY) {
            throw new IllegalArgumentException("the days are not in ascending order from 0 to 365");
        }
    }

    private void refuse(int reason) {
        latestReason = reason;
        throw new UnsupportedOperationException("refused, see refusal");
    }

    /** The first letter that is refused decides: a later one may have another reason. */
    private int reasonAgainstText() {
        for (int i = 0; i < text.letters; i++) {
            if (office.letters.count + i >= MAX_LETTERS) {
                return REFUSED_FULL;
            }
            if (!isBelow(text.person[i], office.persons.count)) {
                return REFUSED_PERSON;
            }
        }
        return NONE;
    }

    private static boolean isStreet(int street) {
        return isBelow(street, STREETS);
    }

    private static boolean isHouseNumber(int number) {
        return isBetween(number, FIRST_NUMBER, LAST_NUMBER);
    }

    private static boolean isBelow(int index, int count) {
        return index >= 0 && index < count;
    }

    private static boolean isBetween(int value, int lowest, int highest) {
        return value >= lowest && value <= highest;
    }

    private static void copyRow(int[] from, int[] to) {
        System.arraycopy(from, 0, to, 0, Math.min(from.length, to.length));
    }

    /** Moves what stands behind an index one place ahead. */
    private static void closeGap(int[] row, int index) {
        if (isBelow(index, row.length)) {
            System.arraycopy(row, index + 1, row, index, row.length - index - 1);
        }
    }

    private static final class Houses {
        int count = 0;
        final int[] street = new int[MAX_HOUSES];
        final int[] number = new int[MAX_HOUSES];

        void copyFrom(Houses other) {
            count = other.count;
            copyRow(other.street, street);
            copyRow(other.number, number);
        }

        boolean contains(int wantedStreet, int wantedNumber) {
            for (int i = 0; i < count; i++) {
                if (street[i] == wantedStreet && number[i] == wantedNumber) {
                    return true;
                }
            }
            return false;
        }

        int add(int newStreet, int newNumber) {
            if (count >= MAX_HOUSES) {
                return NONE;
            }
            street[count] = newStreet;
            number[count] = newNumber;
            count++;
            return count - 1;
        }
    }

    private static final class Persons {
        int count = 0;
        final int[] home = new int[MAX_PERSONS];
        final int[] heldUntil = new int[MAX_PERSONS];
        final int[] limit = new int[MAX_PERSONS];
        // One bit for each other person.
        final int[] allowed = new int[MAX_PERSONS];

        void copyFrom(Persons other) {
            count = other.count;
            copyRow(other.home, home);
            copyRow(other.heldUntil, heldUntil);
            copyRow(other.limit, limit);
            copyRow(other.allowed, allowed);
        }

        int add(int house) {
            if (count >= MAX_PERSONS) {
                return NONE;
            }
            home[count] = house;
            heldUntil[count] = NONE;
            limit[count] = HEAVIEST;
            allowed[count] = 0;
            count++;
            return count - 1;
        }

        boolean hasAllowed(int person, int other) {
            return isBelow(person, count) && (allowed[person] & (1 << other)) != 0;
        }

        void setAllowed(int person, int other, boolean isAllowed) {
            if (!isBelow(person, count)) {
                return;
            }
            if (isAllowed) {
                allowed[person] |= 1 << other;
            } else {
                allowed[person] &= ~(1 << other);
            }
        }
    }

    private static final class Walks {
        int count = 0;
        final int[] street = new int[MAX_WALKS];
        final int[] side = new int[MAX_WALKS];
        final int[] direction = new int[MAX_WALKS];
        final int[] first = new int[MAX_WALKS];
        final int[] last = new int[MAX_WALKS];

        void copyFrom(Walks other) {
            count = other.count;
            copyRow(other.street, street);
            copyRow(other.side, side);
            copyRow(other.direction, direction);
            copyRow(other.first, first);
            copyRow(other.last, last);
        }

        int add(int newStreet, int newSide, int newDirection, int newFirst, int newLast) {
            if (count >= MAX_WALKS) {
                return NONE;
            }
            street[count] = newStreet;
            side[count] = newSide;
            direction[count] = newDirection;
            first[count] = newFirst;
            last[count] = newLast;
            count++;
            return count - 1;
        }

        /** The lowest walk that could serve a house does serve it. */
        int lowestFor(int houseStreet, int houseNumber) {
            for (int i = 0; i < count; i++) {
                if (street[i] == houseStreet && isOnSide(i, houseNumber)
                        && isBetween(houseNumber, first[i], last[i])) {
                    return i;
                }
            }
            return NONE;
        }

        boolean isOnSide(int walk, int houseNumber) {
            int sideOfHouse = houseNumber % 2 == 0 ? EVEN_SIDE : ODD_SIDE;
            return side[walk] == BOTH_SIDES || side[walk] == sideOfHouse;
        }

        boolean comesFirst(int walk, int houseNumber, int otherNumber) {
            return direction[walk] == ASCENDING ? houseNumber < otherNumber : houseNumber > otherNumber;
        }
    }

    private static final class Redirects {
        int count = 0;
        final int[] kind = new int[MAX_REDIRECTS];
        final int[] source = new int[MAX_REDIRECTS];
        final int[] target = new int[MAX_REDIRECTS];
        final int[] first = new int[MAX_REDIRECTS];
        final int[] last = new int[MAX_REDIRECTS];

        void copyFrom(Redirects other) {
            count = other.count;
            copyRow(other.kind, kind);
            copyRow(other.source, source);
            copyRow(other.target, target);
            copyRow(other.first, first);
            copyRow(other.last, last);
        }

        int add(int newKind, int newSource, int newTarget, int newFirst, int newLast) {
            if (count >= MAX_REDIRECTS) {
                return NONE;
            }
            kind[count] = newKind;
            source[count] = newSource;
            target[count] = newTarget;
            first[count] = newFirst;
            last[count] = newLast;
            count++;
            return count - 1;
        }

        void remove(int redirect) {
            closeGap(kind, redirect);
            closeGap(source, redirect);
            closeGap(target, redirect);
            closeGap(first, redirect);
            closeGap(last, redirect);
            count--;
        }

        /** The house to which the redirect leads that counts, or NONE. */
        int targetOf(int wantedKind, int wantedSource, int day, int skipped) {
            for (int i = count - 1; i >= 0; i--) {
                if (i != skipped && kind[i] == wantedKind && source[i] == wantedSource
                        && isBetween(day, first[i], last[i])) {
                    return target[i];
                }
            }
            return NONE;
        }

        boolean wouldLeadRoundWith(int from, int to, int newFirst, int newLast) {
            if (add(OF_HOUSE, from, to, newFirst, newLast) == NONE) {
                return false;
            }
            boolean isRound = leadRoundWithout(NONE);
            count--;
            return isRound;
        }

        /** What counts changes only where a redirect begins or has ended, so these days suffice. */
        boolean leadRoundWithout(int skipped) {
            for (int i = 0; i < count; i++) {
                if (leadRoundOn(first[i], skipped) || leadRoundOn(last[i] + 1, skipped)) {
                    return true;
                }
            }
            return false;
        }

        boolean leadRoundOn(int day, int skipped) {
            for (int i = 0; i < count; i++) {
                if (i != skipped && kind[i] == OF_HOUSE && comesBack(source[i], day, skipped)) {
                    return true;
                }
            }
            return false;
        }

        boolean comesBack(int start, int day, int skipped) {
            int house = start;
            for (int step = 0; step < MAX_HOUSES && house != NONE; step++) {
                house = targetOf(OF_HOUSE, house, day, skipped);
                if (house == start) {
                    return true;
                }
            }
            return false;
        }
    }

    private static final class Absences {
        int count = 0;
        final int[] person = new int[MAX_ABSENCES];
        final int[] first = new int[MAX_ABSENCES];
        final int[] last = new int[MAX_ABSENCES];

        void copyFrom(Absences other) {
            count = other.count;
            copyRow(other.person, person);
            copyRow(other.first, first);
            copyRow(other.last, last);
        }

        void add(int newPerson, int newFirst, int newLast) {
            if (count >= MAX_ABSENCES) {
                dropOldest();
            }
            person[count] = newPerson;
            first[count] = newFirst;
            last[count] = newLast;
            count++;
        }

        void dropOldest() {
            closeGap(person, 0);
            closeGap(first, 0);
            closeGap(last, 0);
            count--;
        }

        boolean isAbsent(int wanted, int day) {
            for (int i = 0; i < count; i++) {
                if (person[i] == wanted && isBetween(day, first[i], last[i])) {
                    return true;
                }
            }
            return false;
        }
    }

    private static final class Letters {
        int count = 0;
        int deliveries = 0;
        final int[] person = new int[MAX_LETTERS];
        final int[] weight = new int[MAX_LETTERS];
        final int[] registered = new int[MAX_LETTERS];
        final int[] came = new int[MAX_LETTERS];
        final int[] state = new int[MAX_LETTERS];
        final int[] ended = new int[MAX_LETTERS];
        final int[] reason = new int[MAX_LETTERS];
        final int[] tries = new int[MAX_LETTERS];
        final int[] house = new int[MAX_LETTERS];
        final int[] signedBy = new int[MAX_LETTERS];
        final int[] number = new int[MAX_LETTERS];
        // The letters in the order of their deliveries.
        final int[] deliveredAs = new int[MAX_LETTERS];

        void copyFrom(Letters other) {
            count = other.count;
            deliveries = other.deliveries;
            copyRow(other.person, person);
            copyRow(other.weight, weight);
            copyRow(other.registered, registered);
            copyRow(other.came, came);
            copyRow(other.state, state);
            copyRow(other.ended, ended);
            copyRow(other.reason, reason);
            copyRow(other.tries, tries);
            copyRow(other.house, house);
            copyRow(other.signedBy, signedBy);
            copyRow(other.number, number);
            copyRow(other.deliveredAs, deliveredAs);
        }

        int add(int newPerson, int newWeight, int isRegistered, int day) {
            if (count >= MAX_LETTERS) {
                return NONE;
            }
            person[count] = newPerson;
            weight[count] = newWeight;
            registered[count] = isRegistered;
            came[count] = day;
            state[count] = WAITING;
            ended[count] = NONE;
            reason[count] = NONE;
            tries[count] = 0;
            house[count] = NONE;
            signedBy[count] = NONE;
            number[count] = NONE;
            count++;
            return count - 1;
        }

        void deliver(int letter, int day, int atHouse, int signing) {
            if (deliveries >= MAX_LETTERS) {
                return;
            }
            state[letter] = DELIVERED;
            ended[letter] = day;
            house[letter] = atHouse;
            signedBy[letter] = signing;
            number[letter] = deliveries;
            deliveredAs[deliveries] = letter;
            deliveries++;
        }

        void sendBack(int letter, int day, int why) {
            state[letter] = RETURNED;
            ended[letter] = day;
            reason[letter] = why;
        }

        int numberOf(int letter, int what) {
            switch (what) {
                case 0: return person[letter];
                case 1: return weight[letter];
                case 2: return registered[letter];
                case 3: return came[letter];
                case 4: return state[letter];
                case 5: return ended[letter];
                case 6: return reason[letter];
                case 7: return tries[letter];
                case 8: return house[letter];
                case 9: return signedBy[letter];
                default: return number[letter];
            }
        }

        StringBuilder writeNote(int letter) {
            StringBuilder out = new StringBuilder();
            out.append('p').append(person[letter]).append('w').append(weight[letter]);
            if (registered[letter] == 1) {
                out.append('r');
            }
            writeEnd(out, letter);
            if (tries[letter] > 0) {
                out.append('x').append(tries[letter]);
            }
            return out;
        }

        private void writeEnd(StringBuilder out, int letter) {
            if (state[letter] == WAITING) {
                out.append('?');
                return;
            }
            if (state[letter] == RETURNED) {
                out.append('<').append(reason[letter]);
            } else {
                out.append('>').append(house[letter]);
                if (registered[letter] == 1) {
                    out.append('/').append(signedBy[letter]);
                }
            }
            out.append('@').append(ended[letter]);
        }

        int countInState(int wanted) {
            int found = 0;
            for (int i = 0; i < count; i++) {
                found += state[i] == wanted ? 1 : 0;
            }
            return found;
        }

        int countReturnedFor(int wanted) {
            int found = 0;
            for (int i = 0; i < count; i++) {
                found += reason[i] == wanted ? 1 : 0;
            }
            return found;
        }

        int waitingWeight() {
            int sum = 0;
            for (int i = 0; i < count; i++) {
                sum += state[i] == WAITING ? weight[i] : 0;
            }
            return sum;
        }

        int allTries() {
            int sum = 0;
            for (int i = 0; i < count; i++) {
                sum += tries[i];
            }
            return sum;
        }

        int daysToDeliveries() {
            int sum = 0;
            for (int i = 0; i < count; i++) {
                sum += state[i] == DELIVERED ? ended[i] - came[i] : 0;
            }
            return sum;
        }
    }

    /**
     * All that undo and restore bring back. A number that one row holds of another row (a home, a target, the person of
     * a letter) is tested before it is used as an index, although none is stored that is not there.
     */
    private static final class Office {
        final Houses houses = new Houses();
        final Persons persons = new Persons();
        final Walks walks = new Walks();
        final Redirects redirects = new Redirects();
        final Absences absences = new Absences();
        final Letters letters = new Letters();
        int day = 0;
        // Used within one day only, and kept so that no day needs a row of its own.
        private final int[] roundOfDay = new int[MAX_LETTERS];

        void copyFrom(Office other) {
            houses.copyFrom(other.houses);
            persons.copyFrom(other.persons);
            walks.copyFrom(other.walks);
            redirects.copyFrom(other.redirects);
            absences.copyFrom(other.absences);
            letters.copyFrom(other.letters);
            day = other.day;
        }

        int walkServing(int house) {
            if (!isBelow(house, houses.count)) {
                return NONE;
            }
            return walks.lowestFor(houses.street[house], houses.number[house]);
        }

        /** With NONE for the walk: the houses that no walk serves. */
        int countServedBy(int walk) {
            int found = 0;
            for (int i = 0; i < houses.count; i++) {
                found += walkServing(i) == walk ? 1 : 0;
            }
            return found;
        }

        int houseAtStop(int walk, int index) {
            for (int i = 0; i < houses.count; i++) {
                if (walkServing(i) == walk && stopPosition(i) == index) {
                    return i;
                }
            }
            return NONE;
        }

        /** Only for a house that a walk serves. */
        int stopPosition(int house) {
            int walk = walkServing(house);
            int ahead = 0;
            if (walk == NONE) {
                return NONE;
            }
            for (int i = 0; i < houses.count; i++) {
                if (walkServing(i) == walk && walks.comesFirst(walk, houses.number[i], houses.number[house])) {
                    ahead++;
                }
            }
            return ahead;
        }

        int startOfWay(int person, int onDay) {
            if (!isBelow(person, persons.count)) {
                return NONE;
            }
            int house = redirects.targetOf(OF_PERSON, person, onDay, NONE);
            return house == NONE ? persons.home[person] : house;
        }

        int houseOnWay(int person, int onDay, int index) {
            if (index >= MAX_HOUSES) {
                return NONE;
            }
            int house = startOfWay(person, onDay);
            for (int step = 0; step < index && house != NONE; step++) {
                house = redirects.targetOf(OF_HOUSE, house, onDay, NONE);
            }
            return house;
        }

        int endOfWay(int person, int onDay) {
            int house = startOfWay(person, onDay);
            for (int step = 0; step < MAX_HOUSES; step++) {
                int next = redirects.targetOf(OF_HOUSE, house, onDay, NONE);
                if (next == NONE) {
                    return house;
                }
                house = next;
            }
            return house;
        }

        int countResidents(int house, int end, int onDay) {
            int found = 0;
            for (int i = 0; i < persons.count; i++) {
                if (persons.home[i] == house && endOfWay(i, onDay) == end) {
                    found++;
                }
            }
            return found;
        }

        /** The person, or the lowest of those who can sign instead, or NONE. */
        int whoSigns(int person, int onDay) {
            if (!absences.isAbsent(person, onDay)) {
                return person;
            }
            int end = endOfWay(person, onDay);
            for (int i = 0; i < persons.count; i++) {
                if (persons.hasAllowed(person, i) && persons.home[i] == end && !absences.isAbsent(i, onDay)) {
                    return i;
                }
            }
            return NONE;
        }

        /** What a day does to a waiting letter, apart from its age. */
        int outcome(int letter, int onDay) {
            int person = letters.person[letter];
            if (!isBelow(person, persons.count) || persons.heldUntil[person] >= onDay) {
                return LEFT;
            }
            if (walkServing(endOfWay(person, onDay)) == NONE) {
                return NOT_SERVED;
            }
            if (letters.weight[letter] > persons.limit[person]) {
                return TOO_HEAVY;
            }
            if (letters.registered[letter] == 0 || whoSigns(person, onDay) != NONE) {
                return HANDED_OVER;
            }
            return NOT_SIGNED;
        }

        boolean isTooOld(int letter, int onDay) {
            return onDay - letters.came[letter] >= LONGEST_WAIT;
        }

        /** Letters do not bear on each other, so the days to come are tried with this one alone. */
        int forecast(int letter) {
            int tries = letters.tries[letter];
            for (int onDay = day; onDay < LAST_DAY; onDay++) {
                int result = outcome(letter, onDay);
                tries += result == NOT_SIGNED ? 1 : 0;
                boolean isLeft = result == LEFT || result == NOT_SIGNED && tries < LAST_TRY;
                if (!isLeft || isTooOld(letter, onDay)) {
                    return onDay - day + 1;
                }
            }
            return NONE;
        }

        void endDay() {
            int due = 0;
            for (int i = 0; i < letters.count; i++) {
                if (letters.state[i] != WAITING) {
                    continue;
                }
                int result = outcome(i, day);
                if (result == HANDED_OVER) {
                    due = insertSorted(roundKey(i), due);
                } else {
                    applyFailure(i, result);
                }
            }
            for (int i = 0; i < due; i++) {
                handOver(roundOfDay[i] % MAX_LETTERS);
            }
            day++;
        }

        private void applyFailure(int letter, int result) {
            if (result == NOT_SIGNED) {
                letters.tries[letter]++;
            }
            if (result == NOT_SERVED || result == TOO_HEAVY) {
                letters.sendBack(letter, day, result);
            } else if (result == NOT_SIGNED && letters.tries[letter] >= LAST_TRY) {
                letters.sendBack(letter, day, NOT_SIGNED);
            } else if (isTooOld(letter, day)) {
                letters.sendBack(letter, day, TOO_OLD);
            }
        }

        /** Sorts by walk, stop, falling weight and letter; the letter is the rest by MAX_LETTERS. */
        private int roundKey(int letter) {
            int house = endOfWay(letters.person[letter], day);
            int key = walkServing(house) * MAX_HOUSES + stopPosition(house);
            key = key * (HEAVIEST + 1) + HEAVIEST - letters.weight[letter];
            return key * MAX_LETTERS + letter;
        }

        private int insertSorted(int key, int length) {
            if (length >= MAX_LETTERS) {
                return length;
            }
            int place = length;
            while (place > 0 && roundOfDay[place - 1] > key) {
                roundOfDay[place] = roundOfDay[place - 1];
                place--;
            }
            roundOfDay[place] = key;
            return length + 1;
        }

        private void handOver(int letter) {
            if (!isBelow(letter, letters.count)) {
                return;
            }
            int person = letters.person[letter];
            int signing = letters.registered[letter] == 1 ? whoSigns(person, day) : NONE;
            letters.deliver(letter, day, endOfWay(person, day), signing);
        }
    }

    /** The offices before the latest changes, in a ring. */
    private static final class History {
        int count = 0;
        private int next = 0;
        private final Office[] offices = new Office[MAX_UNDONE];

        History() {
            for (int i = 0; i < MAX_UNDONE; i++) {
                offices[i] = new Office();
            }
        }

        void keep(Office office) {
            offices[next].copyFrom(office);
            next = next == MAX_UNDONE - 1 ? 0 : next + 1;
            count = Math.min(count + 1, MAX_UNDONE);
        }

        void takeBack(Office office) {
            next = next == 0 ? MAX_UNDONE - 1 : next - 1;
            office.copyFrom(offices[next]);
            count--;
        }

        void forget() {
            count = 0;
        }
    }

    /** The text buffer, and the letters that were read from it last. */
    private static final class ArrivalText {
        int length = 0;
        int letters = 0;
        final int[] person = new int[MAX_TEXT];
        final int[] weight = new int[MAX_TEXT];
        final int[] registered = new int[MAX_TEXT];
        private final char[] signs = new char[MAX_TEXT];
        private int position = 0;

        void put(char c) {
            if (length < MAX_TEXT) {
                signs[length] = c;
                length++;
            }
        }

        void empty() {
            length = 0;
        }

        /** Returns the fault position, or NONE. */
        int read() {
            position = 0;
            letters = 0;
            for (int i = 0; i < MAX_TEXT; i++) {
                if (!readLetter()) {
                    return position;
                }
                if (position == length) {
                    return NONE;
                }
                if (!skip(',')) {
                    return position;
                }
            }
            return position;
        }

        private boolean readLetter() {
            if (!skip('p') || !isDigit()) {
                return false;
            }
            int readPerson = takeDigit();
            if (readPerson > 0 && isDigit()) {
                readPerson = readPerson * 10 + takeDigit();
            }
            int readWeight = LIGHTEST;
            if (skip('w')) {
                if (!isDigit() || isNext('0')) {
                    return false;
                }
                readWeight = takeDigit();
            }
            keepLetter(readPerson, readWeight, skip('r') ? 1 : 0);
            return true;
        }

        private void keepLetter(int readPerson, int readWeight, int isRegistered) {
            if (letters < MAX_TEXT) {
                person[letters] = readPerson;
                weight[letters] = readWeight;
                registered[letters] = isRegistered;
                letters++;
            }
        }

        private boolean isNext(char c) {
            return position < length && signs[position] == c;
        }

        private boolean skip(char c) {
            if (!isNext(c)) {
                return false;
            }
            position++;
            return true;
        }

        private boolean isDigit() {
            return position < length && signs[position] >= '0' && signs[position] <= '9';
        }

        private int takeDigit() {
            if (!isDigit()) {
                return 0;
            }
            position++;
            return signs[position - 1] - '0';
        }
    }
}
