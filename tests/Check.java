import java.util.function.LongSupplier;

/** Counts the checks of one test program, prints those that fail, and ends it with exit code 1 then. */
final class Check {
    private final String program;
    private int made;
    private int failed;

    Check(String program) {
        this.program = program;
    }

    /** A set of shifts as a number. */
    static long shifts(int... shifts) {
        long set = 0;
        for (int shift : shifts) {
            set |= 1L << shift;
        }
        return set;
    }

    static CoverMeter withRosters(long... rosters) {
        CoverMeter meter = new CoverMeter();
        for (long roster : rosters) {
            meter.addPerson(roster);
        }
        return meter;
    }

    static void append(CoverMeter meter, String text) {
        for (int i = 0; i < text.length(); i++) {
            meter.append(text.charAt(i));
        }
    }

    static int carryOut(CoverMeter meter, String text) {
        meter.clearText();
        append(meter, text);
        return meter.carryOut();
    }

    void is(String what, long got, long due) {
        made++;
        if (got != due) {
            fail(what + " is " + got + ", due is " + due);
        }
    }

    void is(String what, double got, double due) {
        made++;
        if (got != due) {
            fail(what + " is " + got + ", due is " + due);
        }
    }

    void holds(String what, boolean holds) {
        made++;
        if (!holds) {
            fail(what + " does not hold");
        }
    }

    /** The call throws just this, and changes nothing that can be asked for. */
    void refused(String what, CoverMeter meter, Class<?> due, LongSupplier call) {
        made++;
        long before = meter.digest();
        String got = "nothing";
        try {
            call.getAsLong();
        } catch (RuntimeException e) {
            got = e.getClass().getName();
        }
        if (!got.equals(due.getName())) {
            fail(what + " throws " + got + ", due is " + due.getName());
        }
        if (meter.digest() != before) {
            fail(what + " throws and changes the state");
        }
    }

    void noPlace(String what, CoverMeter meter, LongSupplier call) {
        refused(what, meter, IndexOutOfBoundsException.class, call);
    }

    void badArgument(String what, CoverMeter meter, LongSupplier call) {
        refused(what, meter, IllegalArgumentException.class, call);
    }

    void badState(String what, CoverMeter meter, LongSupplier call) {
        refused(what, meter, IllegalStateException.class, call);
    }

    void end() {
        System.out.println(program + ": " + made + " checks, " + failed + " failures");
        if (failed != 0) {
            System.exit(1);
        }
    }

    private void fail(String text) {
        failed++;
        System.out.println(program + ": " + text);
    }
}
