import java.lang.management.ManagementFactory;

/** All calls of one run live in one room: the calls that throw nothing make no objects at all. */
public final class RoomTest {
    private static final Check check = new Check("RoomTest");
    private static final int ROUNDS = 20;
    // What the virtual machine itself takes now and then; one array of a state a call would be far more.
    private static final long SLACK = 4096;

    public static void main(String[] args) {
        com.sun.management.ThreadMXBean threads =
                (com.sun.management.ThreadMXBean) ManagementFactory.getThreadMXBean();
        // The first round loads what is asked for the first time, the measuring itself among it.
        round(new CoverMeter());
        threads.getCurrentThreadAllocatedBytes();
        CoverMeter meter = new CoverMeter();
        long before = threads.getCurrentThreadAllocatedBytes();
        for (int i = 0; i < ROUNDS; i++) {
            round(meter);
        }
        long taken = threads.getCurrentThreadAllocatedBytes() - before;
        check.holds("few bytes for " + ROUNDS + " rounds, not " + taken, taken < SLACK);
        long beforeNew = threads.getCurrentThreadAllocatedBytes();
        new CoverMeter();
        long takenByNew = threads.getCurrentThreadAllocatedBytes() - beforeNew;
        check.holds("few bytes for a new object, not " + takenByNew, takenByNew < 32768);
        check.end();
    }

    /** Each undoable call is undone at once: so the rounds can go on for ever. */
    private static void round(CoverMeter meter) {
        if (meter.value(0) == 0) {
            meter.addPerson(Check.ALL_SHIFTS);
            meter.addPerson(0);
            meter.absent(0, 3);
            meter.absent(0, 9);
            for (int i = 0; i < 10; i++) {
                meter.append(i % 2 == 0 ? 'z' : ';');
            }
        }
        meter.set(0, 2);
        meter.roster(1, 20, true);
        meter.bid(1, 0, 5);
        meter.cover(0);
        meter.undo();
        meter.coverAll();
        meter.undo();
        meter.takeBack(1, 0);
        meter.undo();
        meter.undo();
        meter.carryOut();
        meter.mostCovered();
        meter.coveredWith(3);
        meter.coverer(1);
        meter.freeShifts(1);
        meter.spread();
        meter.why(1, 1);
        meter.work(1);
        meter.digest();
        meter.undo();
        meter.undo();
    }
}
