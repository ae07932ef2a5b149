import java.util.ArrayList;
import java.util.List;
import java.util.function.LongSupplier;
import java.util.function.Supplier;
import java.util.function.ToLongFunction;

/** Counts the checks of one test program, prints those that fail, and ends it with exit code 1 then. */
final class Check {
    static final long ALL_SHIFTS = (1L << 42) - 1;
    /** Numbers that no person and no absence can have. */
    static final int[] NOWHERE = {-1, 30, Integer.MIN_VALUE, Integer.MAX_VALUE};

    /** A call that takes a person and an absence. */
    interface OfBoth {
        long ask(CoverMeter meter, int person, int absence);
    }

    private final String program;
    private int made;
    private int failed;

    Check(String program) {
        this.program = program;
    }

    /** A set of shifts as a number. */
    static long shifts(int... shifts) {
        long set = 0;
        for (int shift : shifts) {
            set |= 1L << shift;
        }
        return set;
    }

    static CoverMeter withRosters(long... rosters) {
        CoverMeter meter = new CoverMeter();
        for (long roster : rosters) {
            meter.addPerson(roster);
        }
        return meter;
    }

    /** Eight persons, thirty open absences of the first one, a hundred bytes and four saved states. */
    static CoverMeter full() {
        CoverMeter meter = withRosters(ALL_SHIFTS, 0, 0, 0, 0, 0, 0, 0);
        for (int shift = 0; shift < 30; shift++) {
            meter.absent(0, shift);
        }
        for (int i = 0; i < 50; i++) {
            append(meter, "z;");
        }
        return meter;
    }

    static void append(CoverMeter meter, String text) {
        for (int i = 0; i < text.length(); i++) {
            meter.append(text.charAt(i));
        }
    }

    static int carryOut(CoverMeter meter, String text) {
        meter.clearText();
        append(meter, text);
        return meter.carryOut();
    }

    void is(String what, long got, long due) {
        made++;
        if (got != due) {
            fail(what + " is " + got + ", due is " + due);
        }
    }

    void is(String what, double got, double due) {
        made++;
        if (got != due) {
            fail(what + " is " + got + ", due is " + due);
        }
    }

    void holds(String what, boolean holds) {
        made++;
        if (!holds) {
            fail(what + " does not hold");
        }
    }

    /** The call throws just this, and changes nothing that can be asked for. */
    void refused(String what, CoverMeter meter, Class<?> due, LongSupplier call) {
        made++;
        long before = meter.digest();
        String got = "nothing";
        try {
            call.getAsLong();
        } catch (RuntimeException e) {
            got = e.getClass().getName();
        }
        if (!got.equals(due.getName())) {
            fail(what + " throws " + got + ", due is " + due.getName());
        }
        if (meter.digest() != before) {
            fail(what + " throws and changes the state");
        }
    }

    /** The call throws just this; all that comes to light later is as if it had never been made. */
    void refused(String what, Supplier<CoverMeter> made, Class<?> due, ToLongFunction<CoverMeter> call) {
        CoverMeter first = made.get();
        refused(what, first, due, () -> call.applyAsLong(first));
        holds(what + ": the saved states being as before", savedDigests(first).equals(savedDigests(made.get())));
        CoverMeter second = made.get();
        refused(what, second, due, () -> call.applyAsLong(second));
        holds(what + ": the text being as before", obeyed(second).equals(obeyed(made.get())));
    }

    /** The digests of the object, from the present state back to the oldest saved one. */
    private static List<Long> savedDigests(CoverMeter meter) {
        List<Long> digests = new ArrayList<>();
        digests.add(meter.digest());
        try {
            while (true) {
                meter.undo();
                digests.add(meter.digest());
            }
        } catch (IllegalStateException e) {
            return digests;
        }
    }

    private static List<Long> obeyed(CoverMeter meter) {
        return List.of((long) meter.carryOut(), meter.digest(), (long) meter.clearText());
    }

    void noPlace(String what, Supplier<CoverMeter> made, ToLongFunction<CoverMeter> call) {
        refused(what, made, IndexOutOfBoundsException.class, call);
    }

    void badArgument(String what, Supplier<CoverMeter> made, ToLongFunction<CoverMeter> call) {
        refused(what, made, IllegalArgumentException.class, call);
    }

    void badState(String what, Supplier<CoverMeter> made, ToLongFunction<CoverMeter> call) {
        refused(what, made, IllegalStateException.class, call);
    }

    void noPlace(String what, CoverMeter meter, LongSupplier call) {
        refused(what, meter, IndexOutOfBoundsException.class, call);
    }

    void badArgument(String what, CoverMeter meter, LongSupplier call) {
        refused(what, meter, IllegalArgumentException.class, call);
    }

    void badState(String what, CoverMeter meter, LongSupplier call) {
        refused(what, meter, IllegalStateException.class, call);
    }

    /** The call is refused for a person or an absence that is not there. */
    void noSuchPersonOrAbsence(String what, OfBoth call) {
        for (int none : NOWHERE) {
            noPlace(what + ", person " + none, Check::full, m -> call.ask(m, none, 0));
            noPlace(what + ", absence " + none, Check::full, m -> call.ask(m, 0, none));
            noPlace(what + ", both " + none, Check::full, m -> call.ask(m, none, none));
        }
        noPlace(what + ", person 8", Check::full, m -> call.ask(m, 8, 0));
        Supplier<CoverMeter> few = () -> {
            CoverMeter meter = withRosters(1, 0);
            meter.absent(0, 0);
            return meter;
        };
        noPlace(what + ", the next person", few, m -> call.ask(m, 2, 0));
        noPlace(what + ", the next absence", few, m -> call.ask(m, 1, 1));
    }

    /** What is told of the person, from what = 0 on. */
    void personIs(CoverMeter meter, int person, int... due) {
        for (int what = 0; what < due.length; what++) {
            is("person " + person + ", " + what, meter.person(person, what), due[what]);
        }
    }

    void valuesAre(CoverMeter meter, int... due) {
        for (int what = 0; what < due.length; what++) {
            is("value " + what, meter.value(what), due[what]);
        }
    }

    /** The meters of the persons, from the first one on. */
    void metersAre(String when, CoverMeter meter, int... due) {
        for (int person = 0; person < due.length; person++) {
            is("the meter of " + person + " " + when, meter.person(person, 3), due[person]);
        }
    }

    void end() {
        System.out.println(program + ": " + made + " checks, " + failed + " failures");
        if (failed != 0) {
            System.exit(1);
        }
    }

    private void fail(String text) {
        failed++;
        System.out.println(program + ": " + text);
    }
}
