import java.util.ArrayDeque;
import java.util.ArrayList;
import java.util.Comparator;
import java.util.Deque;
import java.util.List;
import java.util.TreeMap;
import java.util.TreeSet;
import java.util.function.Predicate;

/** The document once more, as plainly and slowly as can be, to compare random runs with. */
final class PlainModel {
    private static final int NONE = -1;

    private static final class Person {
        final TreeSet<Integer> roster = new TreeSet<>();
        int meter;
        int turns;
    }

    private static final class Absence {
        final int person;
        final int shift;
        int status;
        int coverer = NONE;
        int points;
        final TreeMap<Integer, Integer> bids = new TreeMap<>();

        Absence(int person, int shift) {
            this.person = person;
            this.shift = shift;
        }

        boolean covered() {
            return status == 1 || status == 2;
        }
    }

    private static final class State {
        final int[] settings = {1, 10, 20};
        final List<Person> persons = new ArrayList<>();
        final List<Absence> absences = new ArrayList<>();
        int handedOver;

        State copy() {
            State copy = new State();
            System.arraycopy(settings, 0, copy.settings, 0, 3);
            copy.handedOver = handedOver;
            for (Person p : persons) {
                Person q = new Person();
                q.roster.addAll(p.roster);
                q.meter = p.meter;
                q.turns = p.turns;
                copy.persons.add(q);
            }
            for (Absence a : absences) {
                Absence b = new Absence(a.person, a.shift);
                b.status = a.status;
                b.coverer = a.coverer;
                b.points = a.points;
                b.bids.putAll(a.bids);
                copy.absences.add(b);
            }
            return copy;
        }

        boolean absentIn(int person, int shift) {
            return absences.stream().anyMatch(a -> a.person == person && a.shift == shift);
        }

        boolean worksIn(int person, int shift) {
            boolean regular = persons.get(person).roster.contains(shift) && !absentIn(person, shift);
            return regular || absences.stream().anyMatch(a -> a.coverer == person && a.shift == shift);
        }

        int why(int person, int absence) {
            Absence a = absences.get(absence);
            return a.person == person ? 1 : whyNotIn(person, a.shift);
        }

        int whyNotIn(int person, int shift) {
            if (absentIn(person, shift)) {
                return 2;
            }
            if (worksIn(person, shift)) {
                return 3;
            }
            for (int t = shift - settings[0]; t < shift; t++) {
                if (worksIn(person, t)) {
                    return 4;
                }
            }
            for (int t = shift + 1; t <= shift + settings[0]; t++) {
                if (worksIn(person, t)) {
                    return 5;
                }
            }
            return 0;
        }

        List<Integer> who(Predicate<Integer> fits) {
            List<Integer> found = new ArrayList<>();
            for (int p = 0; p < persons.size(); p++) {
                if (fits.test(p)) {
                    found.add(p);
                }
            }
            return found;
        }

        int coverer(int absence) {
            Absence a = absences.get(absence);
            if (a.status != 0) {
                return NONE;
            }
            List<Integer> can = who(p -> why(p, absence) == 0);
            List<Integer> bidders = new ArrayList<>(can);
            bidders.removeIf(p -> !a.bids.containsKey(p));
            if (!bidders.isEmpty()) {
                bidders.sort(Comparator.<Integer>comparingInt(p -> a.bids.get(p))
                        .thenComparingInt(p -> persons.get(p).meter).thenComparingInt(p -> p));
                return bidders.get(0);
            }
            can.sort(Comparator.<Integer>comparingInt(p -> persons.get(p).turns)
                    .thenComparingInt(p -> persons.get(p).meter).thenComparingInt(p -> p));
            return can.isEmpty() ? NONE : can.get(0);
        }

        void cover(int absence) {
            Absence a = absences.get(absence);
            int p = coverer(absence);
            if (a.bids.containsKey(p)) {
                a.points = a.bids.get(p);
                a.status = 1;
            } else {
                a.points = settings[1];
                a.status = 2;
                persons.get(p).turns++;
            }
            a.coverer = p;
            persons.get(p).meter += a.points;
            persons.get(a.person).meter -= a.points;
            a.bids.clear();
        }

        int coverAll() {
            int covered = 0;
            for (int a = 0; a < absences.size(); a++) {
                if (coverer(a) != NONE) {
                    cover(a);
                    covered++;
                }
            }
            return covered;
        }

        /** Tries every person and none for each open absence, and looks at the whole then. */
        int mostCovered() {
            List<Absence> open = new ArrayList<>(absences);
            open.removeIf(a -> a.status != 0);
            return open.size() > 5 ? NONE : mostFrom(open, 0);
        }

        private int mostFrom(List<Absence> open, int next) {
            if (next == open.size()) {
                return fits(open) ? (int) open.stream().filter(a -> a.coverer != NONE).count() : 0;
            }
            int most = 0;
            for (int p = NONE; p < persons.size(); p++) {
                open.get(next).coverer = p;
                most = Math.max(most, mostFrom(open, next + 1));
            }
            open.get(next).coverer = NONE;
            return most;
        }

        private boolean fits(List<Absence> open) {
            boolean fits = true;
            for (Absence a : open) {
                int p = a.coverer;
                if (p != NONE && fits) {
                    a.coverer = NONE;
                    fits = a.person != p && whyNotIn(p, a.shift) == 0;
                    a.coverer = p;
                }
            }
            return fits;
        }
    }

    private State now = new State();
    private final Deque<State> saved = new ArrayDeque<>();
    private String text = "";

    private void save() {
        saved.addLast(now.copy());
        if (saved.size() > 4) {
            saved.removeFirst();
        }
    }

    private void needPerson(int person) {
        if (person < 0 || person >= now.persons.size()) {
            throw new IndexOutOfBoundsException();
        }
    }

    private void needAbsence(int absence) {
        if (absence < 0 || absence >= now.absences.size()) {
            throw new IndexOutOfBoundsException();
        }
    }

    private static void need(int value, int low, int high) {
        if (value < low || value > high) {
            throw new IllegalArgumentException();
        }
    }

    private static void allow(boolean allowed) {
        if (!allowed) {
            throw new IllegalStateException();
        }
    }

    int set(int what, int value) {
        need(what, 0, 2);
        need(value, what == 1 ? 1 : 0, what == 0 ? 5 : 50);
        save();
        int previous = now.settings[what];
        now.settings[what] = value;
        return previous;
    }

    int addPerson(long roster) {
        if (roster < 0 || roster > 4398046511103L) {
            throw new IllegalArgumentException();
        }
        allow(now.persons.size() < 8);
        save();
        Person p = new Person();
        for (int t = 0; t < 42; t++) {
            if ((roster >> t) % 2 == 1) {
                p.roster.add(t);
            }
        }
        now.persons.add(p);
        return now.persons.size() - 1;
    }

    int roster(int person, int shift, boolean works) {
        needPerson(person);
        need(shift, 0, 41);
        TreeSet<Integer> roster = now.persons.get(person).roster;
        allow(roster.contains(shift) != works && !now.absentIn(person, shift));
        allow(now.absences.stream().noneMatch(a -> a.coverer == person && a.shift == shift));
        save();
        TreeSet<Integer> changed = now.persons.get(person).roster;
        if (works) {
            changed.add(shift);
        } else {
            changed.remove(shift);
        }
        return changed.size();
    }

    int absent(int person, int shift) {
        needPerson(person);
        need(shift, 0, 41);
        allow(now.persons.get(person).roster.contains(shift) && !now.absentIn(person, shift));
        allow(now.absences.size() < 30);
        save();
        now.absences.add(new Absence(person, shift));
        return now.absences.size() - 1;
    }

    int bid(int person, int absence, int points) {
        needPerson(person);
        needAbsence(absence);
        need(points, 0, now.settings[2]);
        allow(now.absences.get(absence).status == 0 && now.absences.get(absence).person != person);
        save();
        now.absences.get(absence).bids.put(person, points);
        return now.absences.get(absence).bids.size();
    }

    int takeBack(int person, int absence) {
        needPerson(person);
        needAbsence(absence);
        allow(now.absences.get(absence).bids.containsKey(person));
        save();
        return now.absences.get(absence).bids.remove(person);
    }

    int cover(int absence) {
        needAbsence(absence);
        int person = now.coverer(absence);
        allow(person != NONE);
        save();
        now.cover(absence);
        return person;
    }

    int coverAll() {
        save();
        return now.coverAll();
    }

    int handOver(int absence, int person) {
        needAbsence(absence);
        needPerson(person);
        allow(now.absences.get(absence).covered() && now.absences.get(absence).coverer != person);
        allow(now.why(person, absence) == 0);
        save();
        Absence a = now.absences.get(absence);
        int previous = a.coverer;
        now.persons.get(previous).meter -= a.points;
        now.persons.get(person).meter += a.points;
        a.coverer = person;
        now.handedOver++;
        return previous;
    }

    int giveUp(int absence) {
        needAbsence(absence);
        allow(now.absences.get(absence).status == 0);
        save();
        Absence a = now.absences.get(absence);
        int bids = a.bids.size();
        a.bids.clear();
        a.status = 3;
        return bids;
    }

    int person(int person, int what) {
        needPerson(person);
        need(what, 0, 6);
        Person p = now.persons.get(person);
        return switch (what) {
            case 0 -> p.roster.size();
            case 1 -> count(a -> a.person == person);
            case 2 -> count(a -> a.coverer == person);
            case 3 -> p.meter;
            case 4 -> p.turns;
            case 5 -> Long.bitCount(work(person));
            default -> count(a -> a.status == 0 && a.bids.containsKey(person));
        };
    }

    private int count(Predicate<Absence> fits) {
        return (int) now.absences.stream().filter(fits).count();
    }

    long work(int person) {
        needPerson(person);
        long work = 0;
        for (int t = 41; t >= 0; t--) {
            work = 2 * work + (now.worksIn(person, t) ? 1 : 0);
        }
        return work;
    }

    int absence(int absence, int what) {
        needAbsence(absence);
        need(what, 0, 6);
        Absence a = now.absences.get(absence);
        int set = 0;
        for (int p : now.who(p -> now.why(p, absence) == 0)) {
            set += 1 << p;
        }
        return new int[] {a.person, a.shift, a.status, a.coverer, a.points, a.bids.size(), set}[what];
    }

    int bidOf(int person, int absence) {
        needPerson(person);
        needAbsence(absence);
        return now.absences.get(absence).bids.getOrDefault(person, NONE);
    }

    int why(int person, int absence) {
        needPerson(person);
        needAbsence(absence);
        return now.why(person, absence);
    }

    int value(int what) {
        need(what, 0, 10);
        return switch (what) {
            case 0 -> now.persons.size();
            case 1 -> now.absences.size();
            case 2, 3, 4, 5 -> count(a -> a.status == what - 2);
            case 6 -> now.persons.stream().mapToInt(p -> p.meter).max().orElse(NONE);
            case 7 -> now.persons.stream().mapToInt(p -> p.meter).min().orElse(NONE);
            case 8 -> now.absences.stream().filter(a -> a.status == 0).mapToInt(a -> a.bids.size()).sum();
            case 9 -> now.absences.stream().filter(a -> a.covered()).mapToInt(a -> a.points).sum();
            default -> now.handedOver;
        };
    }

    int setting(int what) {
        need(what, 0, 2);
        return now.settings[what];
    }

    int coverer(int absence) {
        needAbsence(absence);
        return now.coverer(absence);
    }

    int coveredWith(int rest) {
        need(rest, 0, 5);
        State trial = now.copy();
        trial.settings[0] = rest;
        return trial.coverAll();
    }

    int mostCovered() {
        return now.copy().mostCovered();
    }

    int freeShifts(int person) {
        needPerson(person);
        int free = 0;
        for (int t = 0; t < 42; t++) {
            free += now.whyNotIn(person, t) == 0 ? 1 : 0;
        }
        return free;
    }

    double spread() {
        int sum = now.persons.stream().mapToInt(p -> p.meter < 0 ? -p.meter : p.meter).sum();
        return now.persons.isEmpty() ? 0.0 : (double) sum / now.persons.size();
    }

    int append(int value) {
        need(value, 0, 127);
        allow(text.length() < 100);
        text += (char) value;
        return text.length();
    }

    int clearText() {
        int length = text.length();
        text = "";
        return length;
    }

    int carryOut() {
        int error = errorPosition();
        if (error != NONE) {
            return -10 - error;
        }
        State before = now.copy();
        List<State> states = new ArrayList<>(saved);
        int done = 0;
        for (String order : text.isEmpty() ? new String[0] : text.split(";")) {
            if (!obeys(order)) {
                break;
            }
            done++;
        }
        saved.clear();
        saved.addAll(states);
        State after = now;
        now = before;
        save();
        now = after;
        return done;
    }

    private boolean obeys(String order) {
        String[] part = order.substring(1).split(",");
        try {
            switch (order.charAt(0)) {
                case 'a' -> absent(Integer.parseInt(part[0]), Integer.parseInt(part[1]));
                case 'b' -> bid(Integer.parseInt(part[0]), Integer.parseInt(part[1]), Integer.parseInt(part[2]));
                case 'c' -> cover(Integer.parseInt(part[0]));
                default -> coverAll();
            }
            return true;
        } catch (IndexOutOfBoundsException | IllegalArgumentException | IllegalStateException e) {
            return false;
        }
    }

    private int errorPosition() {
        int at = 0;
        while (at < text.length()) {
            int kind = "abcz".indexOf(text.charAt(at));
            if (kind < 0) {
                return at;
            }
            at++;
            for (char part : new String[] {"P,S;", "P,A,B;", "A;", ";"}[kind].toCharArray()) {
                int length = lengthOf(part, at);
                if (length <= 0) {
                    return at - length;
                }
                at += length;
            }
        }
        return NONE;
    }

    /** The length of the part of an order at this place, or how far behind it the error is, negated. */
    private int lengthOf(char part, int at) {
        if (part == ',' || part == ';') {
            return text.startsWith("" + part, at) ? 1 : 0;
        }
        if (part == 'P') {
            return at < text.length() && text.charAt(at) >= '0' && text.charAt(at) <= '7' ? 1 : 0;
        }
        int digits = 0;
        while (at + digits < text.length() && "0123456789".indexOf(text.charAt(at + digits)) >= 0) {
            digits++;
        }
        if (digits == 0 || digits > 2) {
            return digits == 0 ? 0 : -2;
        }
        int greatest = part == 'S' ? 41 : part == 'A' ? 29 : 50;
        return Integer.parseInt(text.substring(at, at + digits)) > greatest ? 0 : digits;
    }

    int undo() {
        allow(!saved.isEmpty());
        now = saved.removeLast();
        return saved.size();
    }

    long digest() {
        List<Long> values = new ArrayList<>();
        values.add((long) text.length());
        for (int what = 0; what <= 10; what++) {
            values.add((long) value(what));
        }
        for (int what = 0; what <= 2; what++) {
            values.add((long) setting(what));
        }
        for (int p = 0; p < now.persons.size(); p++) {
            for (int what = 0; what <= 6; what++) {
                values.add((long) person(p, what));
            }
            values.add(work(p));
        }
        for (int a = 0; a < now.absences.size(); a++) {
            for (int what = 0; what <= 6; what++) {
                values.add((long) absence(a, what));
            }
            for (int p = 0; p < now.persons.size(); p++) {
                values.add((long) bidOf(p, a));
            }
        }
        values.add((long) saved.size());
        long h = 3727;
        for (long v : values) {
            h = 31 * h + v;
        }
        return h;
    }
}
