/**
 * A meter of fairness for the cover of absences: shifts, absences, bids and compulsory turns, and
 * points that are given to one person whenever they are taken from another.
 */
public final class CoverMeter {
    public static final int NONE = -1;

    private static final int SHIFTS = 42;
    private static final long ALL_SHIFTS = (1L << SHIFTS) - 1;
    private static final int MOST_PERSONS = 8;
    private static final int MOST_ABSENCES = 30;
    private static final int MOST_BYTES = 100;
    private static final int MOST_SAVED = 4;
    private static final int MOST_OPEN_TO_TRY = 5;

    private static final int REST = 0;
    private static final int TURN_POINTS = 1;
    private static final int GREATEST_BID = 2;
    private static final int SETTINGS = 3;
    private static final int[] FIRST_SETTING = {1, 10, 20};
    private static final int[] LOWEST_SETTING = {0, 1, 0};
    private static final int[] GREATEST_SETTING = {5, 50, 50};

    private static final int PERSON_ANSWERS = 7;
    private static final int ABSENCE_ANSWERS = 7;
    private static final int VALUES = 11;

    private static final int OPEN = 0;
    private static final int BY_BID = 1;
    private static final int BY_TURN = 2;
    private static final int GIVEN_UP = 3;

    private static final int CAN_COVER = 0;
    private static final int OWN_ABSENCE = 1;
    private static final int ABSENT_THEN = 2;
    private static final int WORKS_THEN = 3;
    private static final int WORKS_BEFORE = 4;
    private static final int WORKS_BEHIND = 5;

    private static final long DIGEST_START = 3727;

    private final State now = new State();
    private final State trial = new State();
    private final State[] saved = new State[MOST_SAVED];
    private int savedStates;
    private final Orders orders = new Orders();

    public CoverMeter() {
        // All states are made here, once, so that no later call makes an object.
        for (int i = 0; i < MOST_SAVED; i++) {
            saved[i] = new State();
        }
    }

    // ---- roster

    public int set(int what, int value) throws IllegalArgumentException {
        needInRange(what, 0, SETTINGS - 1);
        needInRange(value, LOWEST_SETTING[what], GREATEST_SETTING[what]);
        save();
        int previous = now.settings[what];
        now.settings[what] = value;
        return previous;
    }

    public int addPerson(long roster) throws IllegalArgumentException, IllegalStateException {
        if (roster < 0 || roster > ALL_SHIFTS) {
            throw new IllegalArgumentException("the roster is out of range");
        }
        needAllowed(now.persons < MOST_PERSONS);
        save();
        return now.enterPerson(roster);
    }

    public int roster(int person, int shift, boolean works)
            throws IndexOutOfBoundsException, IllegalArgumentException, IllegalStateException {
        needPerson(person);
        needInRange(shift, 0, SHIFTS - 1);
        needAllowed(now.canChangeRoster(person, shift, works));
        save();
        now.rosters[person] ^= 1L << shift;
        return Long.bitCount(now.rosters[person]);
    }

    public int absent(int person, int shift)
            throws IndexOutOfBoundsException, IllegalArgumentException, IllegalStateException {
        needPerson(person);
        needInRange(shift, 0, SHIFTS - 1);
        needAllowed(now.canBeAbsent(person, shift));
        save();
        return now.enterAbsence(person, shift);
    }

    public int bid(int person, int absence, int points)
            throws IndexOutOfBoundsException, IllegalArgumentException, IllegalStateException {
        needPerson(person);
        needAbsence(absence);
        needInRange(points, 0, now.settings[GREATEST_BID]);
        needAllowed(now.canBid(person, absence));
        save();
        now.bids[bidIndex(person, absence)] = points;
        return now.bidsFor(absence);
    }

    public int takeBack(int person, int absence) throws IndexOutOfBoundsException, IllegalStateException {
        needPerson(person);
        needAbsence(absence);
        int index = bidIndex(person, absence);
        needAllowed(now.bids[index] != NONE);
        save();
        int points = now.bids[index];
        now.bids[index] = NONE;
        return points;
    }

    public int cover(int absence) throws IndexOutOfBoundsException, IllegalStateException {
        needAbsence(absence);
        needAllowed(now.nextCoverer(absence) != NONE);
        save();
        now.coverOpen(absence);
        return now.coverers[absence];
    }

    public int coverAll() {
        save();
        return now.coverAllOpen();
    }

    public int handOver(int absence, int person) throws IndexOutOfBoundsException, IllegalStateException {
        needAbsence(absence);
        needPerson(person);
        needAllowed(now.isCovered(absence) && now.hindrance(person, absence) == CAN_COVER);
        save();
        int previous = now.coverers[absence];
        now.moveCover(absence, person);
        return previous;
    }

    public int giveUp(int absence) throws IndexOutOfBoundsException, IllegalStateException {
        needAbsence(absence);
        needAllowed(now.statuses[absence] == OPEN);
        save();
        int bids = now.bidsFor(absence);
        now.statuses[absence] = GIVEN_UP;
        now.dropBids(absence);
        return bids;
    }

    // ---- values

    public int person(int person, int what) throws IndexOutOfBoundsException, IllegalArgumentException {
        needPerson(person);
        needInRange(what, 0, PERSON_ANSWERS - 1);
        return now.aboutPerson(person, what);
    }

    public long work(int person) throws IndexOutOfBoundsException {
        needPerson(person);
        return now.worked(person);
    }

    public int absence(int absence, int what) throws IndexOutOfBoundsException, IllegalArgumentException {
        needAbsence(absence);
        needInRange(what, 0, ABSENCE_ANSWERS - 1);
        return now.aboutAbsence(absence, what);
    }

    public int bidOf(int person, int absence) throws IndexOutOfBoundsException {
        needPerson(person);
        needAbsence(absence);
        return now.bids[bidIndex(person, absence)];
    }

    public int why(int person, int absence) throws IndexOutOfBoundsException {
        needPerson(person);
        needAbsence(absence);
        return now.hindrance(person, absence);
    }

    public int value(int what) throws IllegalArgumentException {
        needInRange(what, 0, VALUES - 1);
        return now.aboutAll(what);
    }

    public int setting(int what) throws IllegalArgumentException {
        needInRange(what, 0, SETTINGS - 1);
        return now.settings[what];
    }

    // ---- what if

    public int coverer(int absence) throws IndexOutOfBoundsException {
        needAbsence(absence);
        return now.nextCoverer(absence);
    }

    public int coveredWith(int rest) throws IllegalArgumentException {
        needInRange(rest, LOWEST_SETTING[REST], GREATEST_SETTING[REST]);
        trial.copyFrom(now);
        trial.settings[REST] = rest;
        return trial.coverAllOpen();
    }

    public int mostCovered() {
        int open = now.countOf(OPEN);
        if (open > MOST_OPEN_TO_TRY) {
            return NONE;
        }
        trial.copyFrom(now);
        return mostFrom(trial, 0, open);
    }

    public int freeShifts(int person) throws IndexOutOfBoundsException {
        needPerson(person);
        return Long.bitCount(now.free(person));
    }

    public double spread() {
        if (now.persons == 0) {
            return 0.0;
        }
        int sum = 0;
        for (int person = 0; person < now.persons; person++) {
            sum += Math.abs(now.meters[person]);
        }
        return (double) sum / (double) now.persons;
    }

    // ---- text

    public int append(int value) throws IllegalArgumentException, IllegalStateException {
        needInRange(value, 0, 127);
        needAllowed(orders.length < MOST_BYTES);
        orders.text[orders.length] = value;
        orders.length++;
        return orders.length;
    }

    public int clearText() {
        int length = orders.length;
        orders.length = 0;
        return length;
    }

    public int carryOut() {
        int error = orders.errorPosition();
        if (error != NONE) {
            return -10 - error;
        }
        save();
        int done = 0;
        orders.start();
        // No order is shorter than a byte, so the length bounds their number.
        for (int i = 0; i < orders.length && orders.hasMore(); i++) {
            orders.read();
            if (!obey()) {
                return done;
            }
            done++;
        }
        return done;
    }

    // ---- state

    public int undo() throws IllegalStateException {
        needAllowed(savedStates > 0);
        savedStates--;
        now.copyFrom(saved[savedStates]);
        return savedStates;
    }

    public long digest() {
        long h = 31 * DIGEST_START + orders.length;
        for (int what = 0; what < VALUES; what++) {
            h = 31 * h + now.aboutAll(what);
        }
        for (int what = 0; what < SETTINGS; what++) {
            h = 31 * h + now.settings[what];
        }
        for (int person = 0; person < now.persons; person++) {
            h = digestPerson(h, person);
        }
        for (int absence = 0; absence < now.absences; absence++) {
            h = digestAbsence(h, absence);
        }
        return 31 * h + savedStates;
    }

    private long digestPerson(long start, int person) {
        long h = start;
        for (int what = 0; what < PERSON_ANSWERS; what++) {
            h = 31 * h + now.aboutPerson(person, what);
        }
        return 31 * h + now.worked(person);
    }

    private long digestAbsence(long start, int absence) {
        long h = start;
        for (int what = 0; what < ABSENCE_ANSWERS; what++) {
            h = 31 * h + now.aboutAbsence(absence, what);
        }
        for (int person = 0; person < now.persons; person++) {
            h = 31 * h + now.bids[bidIndex(person, absence)];
        }
        return h;
    }

    private void needPerson(int person) {
        if (!now.hasPerson(person)) {
            throw new IndexOutOfBoundsException("there is no such person");
        }
    }

    private void needAbsence(int absence) {
        if (!now.hasAbsence(absence)) {
            throw new IndexOutOfBoundsException("there is no such absence");
        }
    }

    private static void needInRange(int value, int lowest, int greatest) {
        if (value < lowest || value > greatest) {
            throw new IllegalArgumentException("a value is out of range");
        }
    }

    private static void needAllowed(boolean allowed) {
        if (!allowed) {
            throw new IllegalStateException("this cannot be done now");
        }
    }

    /** Call it only when nothing can be refused any more: a call that throws saves nothing. */
    private void save() {
        if (savedStates == MOST_SAVED) {
            dropOldest();
        }
        saved[savedStates].copyFrom(now);
        savedStates++;
    }

    /** The oldest state's object goes to the end, to be filled again. */
    private void dropOldest() {
        State oldest = saved[0];
        for (int i = 1; i < MOST_SAVED; i++) {
            saved[i - 1] = saved[i];
        }
        saved[MOST_SAVED - 1] = oldest;
        savedStates--;
    }

    /** Carries out the order that was read last; false if its call would throw. */
    private boolean obey() {
        switch (orders.kind) {
            case 'a':
                return obeyAbsent(orders.person, orders.number);
            case 'b':
                return obeyBid(orders.person, orders.number, orders.points);
            case 'c':
                return now.hasAbsence(orders.number) && now.coverOpen(orders.number);
            default:
                now.coverAllOpen();
                return true;
        }
    }

    private boolean obeyAbsent(int person, int shift) {
        if (!now.hasPerson(person) || !now.canBeAbsent(person, shift)) {
            return false;
        }
        now.enterAbsence(person, shift);
        return true;
    }

    private boolean obeyBid(int person, int absence, int points) {
        if (!now.hasPerson(person) || !now.hasAbsence(absence)) {
            return false;
        }
        if (points > now.settings[GREATEST_BID] || !now.canBid(person, absence)) {
            return false;
        }
        now.bids[bidIndex(person, absence)] = points;
        return true;
    }

    private static int bidIndex(int person, int absence) {
        return absence * MOST_PERSONS + person;
    }

    /**
     * The most absences from the start on that can be covered together; left tells how many open
     * ones stand there. Two covers hinder each other only in one person, and then both ways, so it
     * is enough to look at each cover when it is added.
     */
    private static int mostFrom(State trial, int start, int left) {
        int absence = trial.nextOpen(start);
        if (absence == NONE || left <= 0) {
            return 0;
        }
        int most = 0;
        long shift = 1L << trial.shifts[absence];
        for (int person = 0; person < trial.persons && most < left; person++) {
            if (trial.hindrance(person, absence) == CAN_COVER) {
                trial.covering[person] |= shift;
                most = Math.max(most, 1 + mostFrom(trial, absence + 1, left - 1));
                trial.covering[person] &= ~shift;
            }
        }
        if (most < left - 1) {
            most = Math.max(most, mostFrom(trial, absence + 1, left - 1));
        }
        return most;
    }

    /** All that undo restores, with the rules of covering. Its callers look at the numbers first. */
    private static final class State {
        final int[] settings = new int[SETTINGS];
        int handedOver;

        int persons;
        final long[] rosters = new long[MOST_PERSONS];
        // Sets of shifts, kept beside the absences: who can cover is asked far too often to count.
        final long[] away = new long[MOST_PERSONS];
        final long[] covering = new long[MOST_PERSONS];
        final int[] meters = new int[MOST_PERSONS];
        final int[] turns = new int[MOST_PERSONS];

        int absences;
        final int[] absentees = new int[MOST_ABSENCES];
        final int[] shifts = new int[MOST_ABSENCES];
        final int[] statuses = new int[MOST_ABSENCES];
        final int[] coverers = new int[MOST_ABSENCES];
        final int[] points = new int[MOST_ABSENCES];
        final int[] bids = new int[MOST_ABSENCES * MOST_PERSONS];

        State() {
            System.arraycopy(FIRST_SETTING, 0, settings, 0, SETTINGS);
        }

        void copyFrom(State other) {
            System.arraycopy(other.settings, 0, settings, 0, SETTINGS);
            handedOver = other.handedOver;
            persons = other.persons;
            System.arraycopy(other.rosters, 0, rosters, 0, MOST_PERSONS);
            System.arraycopy(other.away, 0, away, 0, MOST_PERSONS);
            System.arraycopy(other.covering, 0, covering, 0, MOST_PERSONS);
            System.arraycopy(other.meters, 0, meters, 0, MOST_PERSONS);
            System.arraycopy(other.turns, 0, turns, 0, MOST_PERSONS);
            absences = other.absences;
            System.arraycopy(other.absentees, 0, absentees, 0, MOST_ABSENCES);
            System.arraycopy(other.shifts, 0, shifts, 0, MOST_ABSENCES);
            System.arraycopy(other.statuses, 0, statuses, 0, MOST_ABSENCES);
            System.arraycopy(other.coverers, 0, coverers, 0, MOST_ABSENCES);
            System.arraycopy(other.points, 0, points, 0, MOST_ABSENCES);
            System.arraycopy(other.bids, 0, bids, 0, MOST_ABSENCES * MOST_PERSONS);
        }

        boolean hasPerson(int person) {
            return person >= 0 && person < persons;
        }

        boolean hasAbsence(int absence) {
            return absence >= 0 && absence < absences;
        }

        boolean isCovered(int absence) {
            return statuses[absence] == BY_BID || statuses[absence] == BY_TURN;
        }

        int enterPerson(long roster) {
            int person = persons;
            rosters[person] = roster;
            away[person] = 0;
            covering[person] = 0;
            meters[person] = 0;
            turns[person] = 0;
            persons++;
            return person;
        }

        boolean canChangeRoster(int person, int shift, boolean works) {
            long bit = 1L << shift;
            boolean inIt = (rosters[person] & bit) != 0;
            return inIt != works && ((away[person] | covering[person]) & bit) == 0;
        }

        boolean canBeAbsent(int person, int shift) {
            long bit = 1L << shift;
            return (rosters[person] & ~away[person] & bit) != 0 && absences < MOST_ABSENCES;
        }

        int enterAbsence(int person, int shift) {
            int absence = absences;
            absentees[absence] = person;
            shifts[absence] = shift;
            statuses[absence] = OPEN;
            coverers[absence] = NONE;
            points[absence] = 0;
            dropBids(absence);
            away[person] |= 1L << shift;
            absences++;
            return absence;
        }

        boolean canBid(int person, int absence) {
            return statuses[absence] == OPEN && absentees[absence] != person;
        }

        int bidsFor(int absence) {
            int count = 0;
            for (int person = 0; person < persons; person++) {
                if (bids[bidIndex(person, absence)] != NONE) {
                    count++;
                }
            }
            return count;
        }

        int bidsBy(int person) {
            int count = 0;
            for (int absence = 0; absence < absences; absence++) {
                if (bids[bidIndex(person, absence)] != NONE) {
                    count++;
                }
            }
            return count;
        }

        /** For the persons to come too: a new person has no bids. */
        void dropBids(int absence) {
            for (int person = 0; person < MOST_PERSONS; person++) {
                bids[bidIndex(person, absence)] = NONE;
            }
        }

        long worked(int person) {
            return rosters[person] & ~away[person] | covering[person];
        }

        /** The shifts that are too near behind one of the work. */
        long restBehind(long work) {
            long near = 0;
            for (int i = 1; i <= settings[REST]; i++) {
                near |= work << i;
            }
            return near;
        }

        /** The shifts that are too near before one of the work. */
        long restBefore(long work) {
            long near = 0;
            for (int i = 1; i <= settings[REST]; i++) {
                near |= work >>> i;
            }
            return near;
        }

        long free(int person) {
            long work = worked(person);
            return ALL_SHIFTS & ~(away[person] | work | restBehind(work) | restBefore(work));
        }

        int hindrance(int person, int absence) {
            if (absentees[absence] == person) {
                return OWN_ABSENCE;
            }
            long bit = 1L << shifts[absence];
            if ((away[person] & bit) != 0) {
                return ABSENT_THEN;
            }
            long work = worked(person);
            if ((work & bit) != 0) {
                return WORKS_THEN;
            }
            if ((restBehind(work) & bit) != 0) {
                return WORKS_BEFORE;
            }
            return (restBefore(work) & bit) != 0 ? WORKS_BEHIND : CAN_COVER;
        }

        int personsWhoCanCover(int absence) {
            int set = 0;
            for (int person = 0; person < persons; person++) {
                if (hindrance(person, absence) == CAN_COVER) {
                    set |= 1 << person;
                }
            }
            return set;
        }

        int nextOpen(int start) {
            for (int absence = start; absence < absences; absence++) {
                if (statuses[absence] == OPEN) {
                    return absence;
                }
            }
            return NONE;
        }

        /** Who would cover the absence, NONE also if it is not open. */
        int nextCoverer(int absence) {
            if (statuses[absence] != OPEN) {
                return NONE;
            }
            int next = NONE;
            for (int person = 0; person < persons; person++) {
                if (hindrance(person, absence) == CAN_COVER
                        && (next == NONE || comesBefore(person, next, absence))) {
                    next = person;
                }
            }
            return next;
        }

        /** Nobody has to take a turn while a bidder can cover, so a bidder comes before all others. */
        boolean comesBefore(int person, int other, int absence) {
            int bid = bids[bidIndex(person, absence)];
            int otherBid = bids[bidIndex(other, absence)];
            if (bid == NONE && otherBid == NONE) {
                return isLess(turns[person], meters[person], turns[other], meters[other]);
            }
            if (bid == NONE || otherBid == NONE) {
                return bid != NONE;
            }
            return isLess(bid, meters[person], otherBid, meters[other]);
        }

        private static boolean isLess(int first, int second, int otherFirst, int otherSecond) {
            return first != otherFirst ? first < otherFirst : second < otherSecond;
        }

        /** Tells whether it is covered now: false if it was not open, or nobody can. */
        boolean coverOpen(int absence) {
            int person = nextCoverer(absence);
            if (person == NONE) {
                return false;
            }
            int bid = bids[bidIndex(person, absence)];
            if (bid != NONE) {
                statuses[absence] = BY_BID;
                points[absence] = bid;
            } else {
                statuses[absence] = BY_TURN;
                points[absence] = settings[TURN_POINTS];
                turns[person]++;
            }
            coverers[absence] = person;
            covering[person] |= 1L << shifts[absence];
            meters[person] += points[absence];
            meters[absentees[absence]] -= points[absence];
            dropBids(absence);
            return true;
        }

        int coverAllOpen() {
            int count = 0;
            for (int absence = 0; absence < absences; absence++) {
                if (coverOpen(absence)) {
                    count++;
                }
            }
            return count;
        }

        void moveCover(int absence, int person) {
            long bit = 1L << shifts[absence];
            int previous = coverers[absence];
            covering[previous] &= ~bit;
            meters[previous] -= points[absence];
            covering[person] |= bit;
            meters[person] += points[absence];
            coverers[absence] = person;
            handedOver++;
        }

        int aboutPerson(int person, int what) {
            switch (what) {
                case 0:
                    return Long.bitCount(rosters[person]);
                case 1:
                    return Long.bitCount(away[person]);
                case 2:
                    return Long.bitCount(covering[person]);
                case 3:
                    return meters[person];
                case 4:
                    return turns[person];
                case 5:
                    return Long.bitCount(worked(person));
                default:
                    return bidsBy(person);
            }
        }

        int aboutAbsence(int absence, int what) {
            switch (what) {
                case 0:
                    return absentees[absence];
                case 1:
                    return shifts[absence];
                case 2:
                    return statuses[absence];
                case 3:
                    return coverers[absence];
                case 4:
                    return points[absence];
                case 5:
                    return bidsFor(absence);
                default:
                    return personsWhoCanCover(absence);
            }
        }

        int aboutAll(int what) {
            switch (what) {
                case 0:
                    return persons;
                case 1:
                    return absences;
                case 2:
                    return countOf(OPEN);
                case 3:
                    return countOf(BY_BID);
                case 4:
                    return countOf(BY_TURN);
                case 5:
                    return countOf(GIVEN_UP);
                case 6:
                    return greatestMeter();
                case 7:
                    return lowestMeter();
                case 8:
                    return allBids();
                case 9:
                    return allPoints();
                default:
                    return handedOver;
            }
        }

        int countOf(int status) {
            int count = 0;
            for (int absence = 0; absence < absences; absence++) {
                if (statuses[absence] == status) {
                    count++;
                }
            }
            return count;
        }

        int greatestMeter() {
            if (persons == 0) {
                return NONE;
            }
            int greatest = meters[0];
            for (int person = 1; person < persons; person++) {
                greatest = Math.max(greatest, meters[person]);
            }
            return greatest;
        }

        int lowestMeter() {
            if (persons == 0) {
                return NONE;
            }
            int lowest = meters[0];
            for (int person = 1; person < persons; person++) {
                lowest = Math.min(lowest, meters[person]);
            }
            return lowest;
        }

        /** Only open absences have bids. */
        int allBids() {
            int count = 0;
            for (int absence = 0; absence < absences; absence++) {
                count += bidsFor(absence);
            }
            return count;
        }

        /** Only covered absences have points. */
        int allPoints() {
            int sum = 0;
            for (int absence = 0; absence < absences; absence++) {
                sum += points[absence];
            }
            return sum;
        }
    }

    /** The text, and a reader that stands before one of its orders. */
    private static final class Orders {
        private static final int GREATEST_WRITTEN_BID = 50;

        final int[] text = new int[MOST_BYTES];
        int length;

        private int at;
        private int error;

        // The order that was read last; number is its shift or its absence.
        int kind;
        int person;
        int number;
        int points;

        void start() {
            at = 0;
            error = NONE;
        }

        boolean hasMore() {
            return at < length;
        }

        /** NONE if the text is a sequence of orders. */
        int errorPosition() {
            start();
            // No order is shorter than a byte, so the length bounds their number.
            for (int i = 0; i < length && hasMore() && error == NONE; i++) {
                read();
            }
            return error;
        }

        /** Reads on behind an error too: only the first error is kept. */
        void read() {
            kind = signAt(at);
            switch (kind) {
                case 'a':
                    at++;
                    person = readPerson();
                    expect(',');
                    number = readNumber(SHIFTS - 1);
                    break;
                case 'b':
                    at++;
                    person = readPerson();
                    expect(',');
                    number = readNumber(MOST_ABSENCES - 1);
                    expect(',');
                    points = readNumber(GREATEST_WRITTEN_BID);
                    break;
                case 'c':
                    at++;
                    number = readNumber(MOST_ABSENCES - 1);
                    break;
                case 'z':
                    at++;
                    break;
                default:
                    fail(at);
                    break;
            }
            expect(';');
        }

        private int readPerson() {
            int digit = signAt(at) - '0';
            if (digit < 0 || digit >= MOST_PERSONS) {
                fail(at);
                return 0;
            }
            at++;
            return digit;
        }

        private int readNumber(int greatest) {
            int first = at;
            int read = 0;
            for (int i = 0; i < 2 && isDigit(signAt(at)); i++) {
                read = 10 * read + signAt(at) - '0';
                at++;
            }
            if (at == first || isDigit(signAt(at))) {
                fail(at);
            } else if (read > greatest) {
                fail(first);
            }
            return read;
        }

        private void expect(int sign) {
            if (signAt(at) == sign) {
                at++;
            } else {
                fail(at);
            }
        }

        private void fail(int position) {
            if (error == NONE) {
                error = position;
            }
        }

        /** NONE, which is no sign, behind the end: what is missing there fails at the length. */
        private int signAt(int position) {
            return position >= 0 && position < length ? text[position] : NONE;
        }

        private static boolean isDigit(int sign) {
            return sign >= '0' && sign <= '9';
        }
    }
}
