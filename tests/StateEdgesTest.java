import java.math.BigInteger;
import java.util.ArrayList;
import java.util.List;
import java.util.function.Consumer;
import java.util.function.Supplier;

/** Promises 27 and 28, the terms of undo and exceptions: each sentence with a boundary case has a test of its own. */
public final class StateEdgesTest {
    private static final Check check = new Check("StateEdgesTest");

    public static void main(String[] args) {
        eachUndoableCallSavesOnce();
        savedEvenIfNothingChanges();
        notSavedByOtherCalls();
        atMostFourStates();
        theOldestIsDroppedFirst();
        everythingButTheText();
        aRefusedCallChangesNothing();
        theFirstExceptionOfSeveral();
        promise27NoSavedState();
        promise27TheStatesThatRemain();
        promise27IsNotUndoable();
        promise28NothingThere();
        promise28KnownStates();
        promise28EverythingThere();
        promise28LengthAndSavedStates();
        theLastOf512Calls();
        check.end();
    }

    /** Absence 0 is open with a bid of person 1, absence 1 covered by person 1, absence 2 open. */
    private static CoverMeter some() {
        CoverMeter meter = Check.withRosters(Check.shifts(0, 6, 12, 18), 0, 0);
        meter.absent(0, 0);
        meter.absent(0, 6);
        meter.absent(0, 12);
        meter.cover(1);
        meter.bid(1, 0, 7);
        return meter;
    }

    /** All that can be asked for but the text and the saved states. */
    private static List<Long> told(CoverMeter meter) {
        List<Long> told = new ArrayList<>();
        for (int what = 0; what <= 10; what++) {
            told.add((long) meter.value(what));
        }
        for (int what = 0; what <= 2; what++) {
            told.add((long) meter.setting(what));
        }
        for (int person = 0; person < meter.value(0); person++) {
            told.add(meter.work(person));
            for (int what = 0; what <= 6; what++) {
                told.add((long) meter.person(person, what));
            }
            for (int absence = 0; absence < meter.value(1); absence++) {
                told.add((long) meter.bidOf(person, absence));
            }
        }
        for (int absence = 0; absence < meter.value(1); absence++) {
            for (int what = 0; what <= 6; what++) {
                told.add((long) meter.absence(absence, what));
            }
        }
        return told;
    }

    private static void undoable(String what, Consumer<CoverMeter> call) {
        CoverMeter meter = some();
        List<Long> before = told(meter);
        call.accept(meter);
        check.holds(what + " changes something", what.equals("carryOut") || !told(meter).equals(before));
        check.is(what + ": the states that remain of four", meter.undo(), 3);
        check.holds(what + " undone", told(meter).equals(before));
        CoverMeter other = some();
        check.is("the state before", other.undo() + meter.undo(), 3 + 2);
        check.holds(what + ": the state before is kept", told(meter).equals(told(other)));
    }

    /** "Each successful call of a method whose description says "undoable" saves the state from before the call" */
    private static void eachUndoableCallSavesOnce() {
        undoable("set", m -> m.set(0, 5));
        undoable("addPerson", m -> m.addPerson(0));
        undoable("roster", m -> m.roster(2, 41, true));
        undoable("absent", m -> m.absent(0, 18));
        undoable("bid", m -> m.bid(2, 0, 0));
        undoable("takeBack", m -> m.takeBack(1, 0));
        undoable("cover", m -> m.cover(0));
        undoable("coverAll", m -> m.coverAll());
        undoable("handOver", m -> m.handOver(1, 2));
        undoable("giveUp", m -> m.giveUp(0));
        undoable("carryOut", m -> m.carryOut());
    }

    /** "even if the call changes nothing" */
    private static void savedEvenIfNothingChanges() {
        CoverMeter meter = new CoverMeter();
        meter.set(0, 1);
        meter.coverAll();
        meter.carryOut();
        for (int left = 2; left >= 0; left--) {
            check.is("the same setting, none covered, no orders", meter.undo(), left);
        }
        CoverMeter bids = Check.withRosters(Check.shifts(3), 0);
        check.is("an absence and a bid", Check.carryOut(bids, "a0,3;b1,0,5;"), 2);
        bids.bid(1, 0, 5);
        check.is("the same bid", bids.undo(), 3);
        check.is("the bid of before", bids.bidOf(1, 0), 5);
        check.is("the state before it", bids.undo(), 2);
        check.is("no absence then", bids.value(1), 0);
    }

    /** The methods whose description does not say so save nothing. */
    private static void notSavedByOtherCalls() {
        CoverMeter meter = new CoverMeter();
        meter.addPerson(Check.shifts(3));
        meter.addPerson(0);
        meter.absent(0, 3);
        meter.person(0, 0);
        meter.work(0);
        meter.absence(0, 0);
        meter.bidOf(1, 0);
        meter.why(1, 0);
        meter.value(0);
        meter.setting(0);
        meter.coverer(0);
        meter.coveredWith(5);
        meter.mostCovered();
        meter.freeShifts(0);
        meter.spread();
        meter.append('z');
        meter.carryOut();
        meter.clearText();
        meter.digest();
        check.is("three calls saved a state", meter.undo(), 2);
    }

    /** "at most 4 states are saved": one to four, and four of any more */
    private static void atMostFourStates() {
        for (int calls = 1; calls <= 13; calls++) {
            CoverMeter meter = new CoverMeter();
            for (int i = 0; i < calls; i++) {
                meter.set(1, 1 + i);
            }
            for (int left = Math.min(4, calls) - 1; left >= 0; left--) {
                check.is("the states that remain of " + calls, meter.undo(), left);
            }
            check.badState("one more", meter, () -> meter.undo());
        }
    }

    /** "and the oldest is dropped first" */
    private static void theOldestIsDroppedFirst() {
        for (int calls = 4; calls <= 13; calls++) {
            CoverMeter meter = new CoverMeter();
            for (int value = 1; value <= calls; value++) {
                meter.set(1, value);
            }
            for (int i = 1; i <= 4; i++) {
                meter.undo();
                check.is("back by " + i, meter.setting(1), calls == i ? 10 : calls - i);
            }
        }
        CoverMeter meter = new CoverMeter();
        for (int value = 1; value <= 6; value++) {
            meter.set(1, value);
        }
        meter.undo();
        meter.undo();
        for (int value = 21; value <= 23; value++) {
            meter.set(1, value);
        }
        int[] due = {22, 21, 4, 3};
        for (int value : due) {
            meter.undo();
            check.is("after a way back and on", meter.setting(1), value);
        }
        check.badState("the oldest was dropped", meter, () -> meter.undo());
    }

    /** "The saved state contains everything except the text." */
    private static void everythingButTheText() {
        CoverMeter meter = some();
        Check.carryOut(meter, "a0,18;b2,3,5;z;");
        meter.handOver(1, 2);
        meter.addPerson(5);
        meter.set(1, 50);
        Check.append(meter, "z;");
        for (int left = 3; left >= 0; left--) {
            check.is("undo", meter.undo(), left);
        }
        check.is("the text of now", meter.clearText(), 17);
        check.holds("all the rest of before", told(meter).equals(told(some())));
        meter.set(0, 2);
        meter.undo();
        check.is("an emptied text does not come back", meter.clearText(), 0);
    }

    /** "A call that throws an exception changes nothing.": with all four states saved, the oldest is not dropped */
    private static void aRefusedCallChangesNothing() {
        Supplier<CoverMeter> made = StateEdgesTest::some;
        check.badArgument("set", made, m -> m.set(0, 6));
        check.badArgument("addPerson", made, m -> m.addPerson(-1));
        check.badState("roster", made, m -> m.roster(0, 0, true));
        check.badState("absent", made, m -> m.absent(0, 0));
        check.badState("bid", made, m -> m.bid(0, 0, 0));
        check.badState("takeBack", made, m -> m.takeBack(2, 0));
        check.badState("cover", made, m -> m.cover(1));
        check.badState("handOver", made, m -> m.handOver(0, 1));
        check.badState("giveUp", made, m -> m.giveUp(1));
        check.badArgument("append", made, m -> m.append(128));
        check.badState("append to a full text", Check::full, m -> m.append('z'));
        check.badState("undo", CoverMeter::new, m -> m.undo());
    }

    /** "If several exceptions apply, the one that is listed first is thrown." */
    private static void theFirstExceptionOfSeveral() {
        Supplier<CoverMeter> made = Check::full;
        check.badArgument("addPerson: roster, 8 persons", made, m -> m.addPerson(-1));
        check.noPlace("roster: person, shift", made, m -> m.roster(8, 42, true));
        check.noPlace("roster: person, so already", made, m -> m.roster(8, 0, false));
        check.badArgument("roster: shift, so already", made, m -> m.roster(1, 42, false));
        check.noPlace("absent: person, shift, 30 absences", made, m -> m.absent(-1, -1));
        check.badArgument("absent: shift, 30 absences", made, m -> m.absent(0, 42));
        check.noPlace("bid: person, points, the own", made, m -> m.bid(8, 0, 21));
        check.noPlace("bid: absence, points", made, m -> m.bid(0, 30, -1));
        check.badArgument("bid: points, the own", made, m -> m.bid(0, 0, 21));
        check.noPlace("takeBack: person, no bid", made, m -> m.takeBack(8, 0));
        check.noPlace("takeBack: absence, no bid", made, m -> m.takeBack(0, 30));
        check.noPlace("handOver: person, not covered", made, m -> m.handOver(0, 8));
        check.noPlace("handOver: absence, the person", made, m -> m.handOver(30, 0));
        check.noPlace("person: person, what", made, m -> m.person(8, 7));
        check.noPlace("absence: absence, what", made, m -> m.absence(30, 7));
        check.badArgument("append: value, 100 bytes", made, m -> m.append(-1));
    }

    /** Promise 27: "Throws `IllegalStateException` if there is no saved state" */
    private static void promise27NoSavedState() {
        check.badState("a new object", CoverMeter::new, m -> m.undo());
        check.badState("refused calls alone", () -> {
            CoverMeter meter = new CoverMeter();
            check.badArgument("a refused call", meter, () -> meter.set(0, 6));
            check.badState("a refused undo", meter, () -> meter.undo());
            return meter;
        }, m -> m.undo());
        check.badState("a text alone", () -> {
            CoverMeter meter = new CoverMeter();
            Check.carryOut(meter, "z");
            return meter;
        }, m -> m.undo());
        check.badState("all undone", () -> {
            CoverMeter meter = some();
            for (int left = 3; left >= 0; left--) {
                meter.undo();
            }
            return meter;
        }, m -> m.undo());
    }

    /** "Returns the number of saved states that remain.": 3 to 0, "and removes it from the saved states" */
    private static void promise27TheStatesThatRemain() {
        CoverMeter meter = new CoverMeter();
        for (int saved = 1; saved <= 4; saved++) {
            for (int value = 1; value <= saved; value++) {
                meter.set(1, value);
            }
            for (int left = saved - 1; left >= 0; left--) {
                check.is("the states that remain", meter.undo(), left);
                check.is("the state", meter.setting(1), left == 0 ? 10 : left);
            }
        }
    }

    /** An undo saves nothing: it cannot be undone. */
    private static void promise27IsNotUndoable() {
        CoverMeter meter = new CoverMeter();
        meter.set(1, 1);
        meter.set(1, 2);
        meter.undo();
        meter.undo();
        check.is("back at the first", meter.setting(1), 10);
        check.badState("no way on", meter, () -> meter.undo());
    }

    /** Promise 28, "Start with h = 3727", without persons and absences: the number was worked out elsewhere. */
    private static void promise28NothingThere() {
        check.is("a new object", new CoverMeter().digest(), 7069057781799719172L);
    }

    /** Promise 28 of small states: the numbers were worked out elsewhere. */
    private static void promise28KnownStates() {
        CoverMeter one = Check.withRosters(Check.ALL_SHIFTS);
        one.append('z');
        check.is("one person and one byte", one.digest(), -4253028538031079770L);
        CoverMeter two = Check.withRosters(Check.shifts(3), 0);
        two.absent(0, 3);
        two.bid(1, 0, 20);
        check.is("an open absence with a bid", two.digest(), -61877923796162744L);
        two.takeBack(1, 0);
        two.cover(0);
        check.is("a turn", two.digest(), -5123170408560954573L);
    }

    /** "Returns the hash, with the overflow of long arithmetic ignored." */
    private static void promise28EverythingThere() {
        CoverMeter meter = Check.full();
        check.is("all open", meter.digest(), digestOf(meter, 100, 4));
        for (int person = 1; person < 8; person++) {
            meter.bid(person, person, 20);
            meter.bid(person, 29 - person, 0);
        }
        meter.giveUp(0);
        meter.cover(29);
        meter.handOver(29, 7);
        check.is("some of each kind", meter.digest(), digestOf(meter, 100, 4));
        meter.coverAll();
        check.is("all covered or given up", meter.digest(), digestOf(meter, 100, 4));
    }

    /** "the length of the text; .. the number of saved states": 0 to 100, 0 to 4 */
    private static void promise28LengthAndSavedStates() {
        CoverMeter meter = new CoverMeter();
        for (int length = 0; length <= 100; length++) {
            check.is("length " + length, meter.digest(), digestOf(meter, length, 0));
            if (length < 100) {
                meter.append('x');
            }
        }
        for (int calls = 1; calls <= 6; calls++) {
            meter.set(0, 1);
            check.is("after " + calls + " calls", meter.digest(), digestOf(meter, 100, Math.min(4, calls)));
        }
        for (int left = 3; left >= 0; left--) {
            meter.undo();
            check.is("saved states " + left, meter.digest(), digestOf(meter, 100, left));
        }
    }

    /** The hash without any overflow, cut to a long at the end. */
    private static long digestOf(CoverMeter meter, int length, int savedStates) {
        BigInteger h = with(BigInteger.valueOf(3727), length);
        for (int what = 0; what <= 10; what++) {
            h = with(h, meter.value(what));
        }
        for (int what = 0; what <= 2; what++) {
            h = with(h, meter.setting(what));
        }
        int persons = meter.value(0);
        for (int person = 0; person < persons; person++) {
            for (int what = 0; what <= 6; what++) {
                h = with(h, meter.person(person, what));
            }
            h = with(h, meter.work(person));
        }
        int absences = meter.value(1);
        for (int absence = 0; absence < absences; absence++) {
            for (int what = 0; what <= 6; what++) {
                h = with(h, meter.absence(absence, what));
            }
            for (int person = 0; person < persons; person++) {
                h = with(h, meter.bidOf(person, absence));
            }
        }
        return with(h, savedStates).longValue();
    }

    private static BigInteger with(BigInteger h, long v) {
        return h.multiply(BigInteger.valueOf(31)).add(BigInteger.valueOf(v));
    }

    /** "An object is used for at most 512 calls": the last one is answered as the first ones are. */
    private static void theLastOf512Calls() {
        CoverMeter meter = new CoverMeter();
        int calls = 0;
        for (; calls < 500; calls++) {
            check.is("set", meter.set(1, 1 + calls % 50), calls == 0 ? 10 : 1 + (calls - 1) % 50);
        }
        for (int left = 3; left >= 0; left--, calls++) {
            check.is("undo", meter.undo(), left);
        }
        for (int person = 0; person < 7; person++, calls++) {
            check.is("addPerson", meter.addPerson(person), person);
        }
        check.is("the calls so far", calls, 511);
        check.is("the last call", meter.value(0), 7);
    }
}
