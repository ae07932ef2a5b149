import java.util.function.LongSupplier;

/** Long runs of calls, chosen by a fixed row of numbers, each answered by the plain model too. */
public final class RandomRunsTest {
    private static final int RUNS = 400;
    private static final int CALLS = 512;
    private static final Check check = new Check("RandomRunsTest");

    private final CoverMeter meter = new CoverMeter();
    private final PlainModel model = new PlainModel();
    private final int run;
    private long seed;
    private int calls;

    private RandomRunsTest(int run) {
        this.run = run;
        seed = 7919L * run + 1;
    }

    public static void main(String[] args) {
        for (int run = 0; run < RUNS; run++) {
            new RandomRunsTest(run).go();
        }
        check.end();
    }

    private void go() {
        for (int i = 0; i < 2 + run % 6; i++) {
            long roster = roster();
            same("addPerson", () -> meter.addPerson(roster), () -> model.addPerson(roster));
        }
        while (calls < CALLS - 1) {
            int kind = below(100);
            if (kind < 70) {
                change();
            } else if (kind < 80) {
                text();
            } else {
                ask();
            }
            if (calls % 8 == 0) {
                same("digest", meter::digest, model::digest);
            }
        }
        same("digest", meter::digest, model::digest);
    }

    private void same(String call, LongSupplier real, LongSupplier plain) {
        calls++;
        String got = answer(real);
        String due = answer(plain);
        check.holds("run " + run + ", call " + calls + ": " + call + " answers " + got + ", due is " + due,
                got.equals(due));
    }

    private static String answer(LongSupplier call) {
        try {
            return String.valueOf(call.getAsLong());
        } catch (RuntimeException e) {
            return e.getClass().getName();
        }
    }

    private int below(int bound) {
        seed = seed * 6364136223846793005L + 1442695040888963407L;
        return (int) ((seed >>> 33) % bound);
    }

    /** Mostly one of so many, sometimes the next one or none. */
    private int oneOf(int count) {
        switch (below(60)) {
            case 0: return -1;
            case 1: return count;
            case 2: return below(2) == 0 ? Integer.MAX_VALUE : Integer.MIN_VALUE;
            default: return below(Math.max(1, count));
        }
    }

    private long roster() {
        long many = (long) below(1 << 21) << 21 | below(1 << 21);
        long few = many & ((long) below(1 << 21) << 21 | below(1 << 21));
        long fewest = few & ((long) below(1 << 21) << 21 | below(1 << 21));
        switch (run % 4) {
            case 0: return below(20) == 0 ? many - (1L << 41) : many;
            case 1: return few;
            default: return fewest;
        }
    }

    private void change() {
        int person = oneOf(model.value(0));
        int absence = oneOf(model.value(1));
        int shift = oneOf(42);
        switch (below(20)) {
            case 0: set(oneOf(3)); break;
            case 1: {
                long roster = roster();
                same("addPerson " + roster, () -> meter.addPerson(roster), () -> model.addPerson(roster));
                break;
            }
            case 2: case 3: {
                boolean works = below(2) == 0;
                same("roster " + person + ", " + shift + ", " + works,
                        () -> meter.roster(person, shift, works), () -> model.roster(person, shift, works));
                break;
            }
            case 4: case 5: case 6: case 7: absent(person); break;
            case 8: case 9: case 10: case 11: {
                int points = oneOf(model.setting(2) + 1) / (1 + below(4));
                same("bid " + person + ", " + absence + ", " + points,
                        () -> meter.bid(person, absence, points), () -> model.bid(person, absence, points));
                break;
            }
            case 12:
                same("takeBack " + person + ", " + absence,
                        () -> meter.takeBack(person, absence), () -> model.takeBack(person, absence));
                break;
            case 13: case 14:
                same("cover " + absence, () -> meter.cover(absence), () -> model.cover(absence));
                break;
            case 15:
                if (below(3) == 0) {
                    same("coverAll", meter::coverAll, model::coverAll);
                }
                break;
            case 16: case 17:
                same("handOver " + absence + ", " + person,
                        () -> meter.handOver(absence, person), () -> model.handOver(absence, person));
                break;
            case 18:
                if (below(4) == 0) {
                    same("giveUp " + absence, () -> meter.giveUp(absence), () -> model.giveUp(absence));
                }
                break;
            default:
                same("undo", meter::undo, model::undo);
                break;
        }
    }

    private void set(int what) {
        int value = oneOf(what == 0 ? 6 : 51);
        same("set " + what + ", " + value, () -> meter.set(what, value), () -> model.set(what, value));
    }

    /** Looks for a shift of the roster, or else hardly any absence would be told. */
    private void absent(int person) {
        int shift = oneOf(42);
        if (person >= 0 && person < model.value(0)) {
            for (int i = 0; i < 20 && (model.work(person) >> shift & 1) == 0; i++) {
                shift = oneOf(42);
            }
        }
        int told = shift;
        same("absent " + person + ", " + told, () -> meter.absent(person, told), () -> model.absent(person, told));
    }

    private void ask() {
        int person = oneOf(model.value(0));
        int absence = oneOf(model.value(1));
        int what = oneOf(7);
        switch (below(14)) {
            case 0:
                same("person", () -> meter.person(person, what), () -> model.person(person, what));
                break;
            case 1: same("work", () -> meter.work(person), () -> model.work(person)); break;
            case 2:
                same("absence", () -> meter.absence(absence, what), () -> model.absence(absence, what));
                break;
            case 3: same("bidOf", () -> meter.bidOf(person, absence), () -> model.bidOf(person, absence)); break;
            case 4: case 5: same("why", () -> meter.why(person, absence), () -> model.why(person, absence)); break;
            case 6: {
                int number = oneOf(11);
                same("value " + number, () -> meter.value(number), () -> model.value(number));
                break;
            }
            case 7: {
                int setting = oneOf(3);
                same("setting", () -> meter.setting(setting), () -> model.setting(setting));
                break;
            }
            case 8: same("coverer", () -> meter.coverer(absence), () -> model.coverer(absence)); break;
            case 9: case 10: {
                int rest = oneOf(6);
                same("coveredWith " + rest, () -> meter.coveredWith(rest), () -> model.coveredWith(rest));
                break;
            }
            case 11: askMostCovered(); break;
            case 12: same("freeShifts", () -> meter.freeShifts(person), () -> model.freeShifts(person)); break;
            default:
                same("spread", () -> Double.doubleToLongBits(meter.spread()),
                        () -> Double.doubleToLongBits(model.spread()));
                break;
        }
    }

    /** The plain model tries (persons + 1) to the power of the open ones: five are asked for seldom. */
    private void askMostCovered() {
        if (model.value(2) < 5 || below(10) == 0) {
            same("mostCovered", meter::mostCovered, model::mostCovered);
        }
    }

    private void text() {
        same("clearText", meter::clearText, model::clearText);
        StringBuilder text = new StringBuilder();
        int orders = below(5);
        for (int i = 0; i < orders; i++) {
            text.append(order());
        }
        for (int spoilt = below(10) - 7; spoilt > 0 && text.length() > 0; spoilt--) {
            spoil(text);
        }
        for (int i = 0; i < text.length(); i++) {
            int sign = text.charAt(i);
            same("append", () -> meter.append(sign), () -> model.append(sign));
        }
        same("carryOut " + text, meter::carryOut, model::carryOut);
    }

    private String order() {
        String zero = below(3) == 0 ? "0" : "";
        int persons = model.value(0) + (below(30) == 0 ? 1 : 0);
        int person = below(Math.min(8, Math.max(1, persons)));
        int absence = below(Math.max(1, Math.min(10, model.value(1))));
        switch (below(10)) {
            case 0: case 1: case 2: return "a" + person + "," + (below(10) == 0 ? 42 : below(42)) + ";";
            case 3: case 4: case 5: return "b" + person + "," + zero + absence + "," + below(12) + ";";
            case 6: case 7: return "c" + zero + absence + ";";
            case 8: return "z;";
            default: return "a" + below(8) + ",0" + below(10) + ";";
        }
    }

    private void spoil(StringBuilder text) {
        String signs = "abcz,;0123456789 /:\0\177";
        char sign = signs.charAt(below(signs.length()));
        int at = below(text.length());
        switch (below(3)) {
            case 0: text.setCharAt(at, sign); break;
            case 1: text.insert(at, sign); break;
            default: text.setLength(at); break;
        }
    }
}
