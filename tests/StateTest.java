/** Promises 27 and 28: undo and digest. */
public final class StateTest {
    private static final int UNDOABLE_CALLS = 12;
    private static final Check check = new Check("StateTest");

    public static void main(String[] args) {
        promise27Undo();
        promise27KeepsFour();
        promise27LeavesTheText();
        promise27EachUndoableCall();
        promise27NotByOtherCalls();
        promise28DigestOfANewObject();
        promise28Digest();
        promise28DigestChanges();
        check.end();
    }

    private static CoverMeter filled() {
        CoverMeter meter = new CoverMeter();
        meter.addPerson(Check.shifts(0, 6, 12, 18));
        meter.addPerson(Check.shifts(24, 40));
        meter.addPerson(0);
        meter.absent(0, 0);
        meter.absent(0, 6);
        meter.absent(0, 12);
        meter.absent(1, 40);
        meter.bid(2, 0, 6);
        meter.bid(1, 2, 7);
        meter.cover(1);
        return meter;
    }

    private static void promise27Undo() {
        CoverMeter meter = new CoverMeter();
        check.badState("undo of nothing", meter, () -> meter.undo());
        meter.addPerson(1);
        meter.addPerson(2);
        check.is("undo", meter.undo(), 1);
        check.is("the persons", meter.value(0), 1);
        check.is("undo again", meter.undo(), 0);
        check.is("no persons", meter.value(0), 0);
        check.badState("undo of nothing left", meter, () -> meter.undo());
        meter.addPerson(4);
        check.is("the person after undo", meter.work(0), 4);
        check.is("undo after undo", meter.undo(), 0);
    }

    private static void promise27KeepsFour() {
        CoverMeter meter = new CoverMeter();
        for (int value = 1; value <= 6; value++) {
            meter.set(1, value);
        }
        for (int left = 3; left >= 0; left--) {
            check.is("the states left", meter.undo(), left);
            check.is("the setting restored", meter.setting(1), left + 2);
        }
        check.badState("the oldest are dropped", meter, () -> meter.undo());
        for (int value = 11; value <= 20; value++) {
            meter.set(1, value);
        }
        meter.undo();
        meter.set(1, 30);
        meter.undo();
        check.is("the setting restored again", meter.setting(1), 19);
        meter.undo();
        check.is("and the one before", meter.setting(1), 18);
    }

    private static void promise27LeavesTheText() {
        CoverMeter meter = new CoverMeter();
        Check.append(meter, "z;");
        meter.set(0, 2);
        Check.append(meter, "z;");
        meter.undo();
        check.is("the text after undo", meter.carryOut(), 2);
        meter.clearText();
        meter.undo();
        check.is("the text after a second undo", meter.clearText(), 0);
    }

    /** Each undoable call saves one state, from which all that it changed comes back. */
    private static void promise27EachUndoableCall() {
        for (int call = 0; call < UNDOABLE_CALLS; call++) {
            CoverMeter meter = filled();
            meter.set(0, 1);
            meter.undo();
            long before = meter.digest();
            change(meter, call);
            check.holds("call " + call + " changes the digest", meter.digest() != before);
            check.is("undo of call " + call, meter.undo(), 3);
            check.is("the digest after undo of call " + call, meter.digest(), before);
        }
    }

    private static void change(CoverMeter meter, int call) {
        switch (call) {
            case 0: meter.set(0, 3); break;
            case 1: meter.addPerson(7); break;
            case 2: meter.roster(2, 33, true); break;
            case 3: meter.absent(0, 18); break;
            case 4: meter.bid(2, 3, 1); break;
            case 5: meter.takeBack(1, 2); break;
            case 6: meter.cover(0); break;
            case 7: meter.coverAll(); break;
            case 8: meter.handOver(1, 2); break;
            case 9: meter.giveUp(2); break;
            case 10: meter.carryOut(); break;
            default: meter.set(0, 1); break;
        }
    }

    private static void promise27NotByOtherCalls() {
        CoverMeter meter = filled();
        meter.undo();
        meter.append('z');
        meter.person(0, 0);
        meter.coverer(0);
        meter.coveredWith(2);
        meter.mostCovered();
        meter.freeShifts(0);
        meter.spread();
        meter.carryOut();
        meter.clearText();
        meter.digest();
        check.is("the saved states", meter.undo(), 2);
    }

    private static void promise28DigestOfANewObject() {
        long h = 31 * 3727;
        int[] values = {0, 0, 0, 0, 0, 0, -1, -1, 0, 0, 0, 1, 10, 20, 0};
        for (int value : values) {
            h = 31 * h + value;
        }
        check.is("the digest of a new object", new CoverMeter().digest(), h);
    }

    private static void promise28Digest() {
        CoverMeter meter = filled();
        Check.append(meter, "a0,");
        check.is("the digest", meter.digest(), digestOf(meter, 3, 4));
        meter.undo();
        meter.clearText();
        check.is("the digest after undo", meter.digest(), digestOf(meter, 0, 3));
    }

    private static long digestOf(CoverMeter meter, int length, int savedStates) {
        long h = 31L * 3727 + length;
        for (int what = 0; what <= 10; what++) {
            h = 31 * h + meter.value(what);
        }
        for (int what = 0; what <= 2; what++) {
            h = 31 * h + meter.setting(what);
        }
        for (int person = 0; person < meter.value(0); person++) {
            for (int what = 0; what <= 6; what++) {
                h = 31 * h + meter.person(person, what);
            }
            h = 31 * h + meter.work(person);
        }
        for (int absence = 0; absence < meter.value(1); absence++) {
            for (int what = 0; what <= 6; what++) {
                h = 31 * h + meter.absence(absence, what);
            }
            for (int person = 0; person < meter.value(0); person++) {
                h = 31 * h + meter.bidOf(person, absence);
            }
        }
        return 31 * h + savedStates;
    }

    private static void promise28DigestChanges() {
        CoverMeter meter = filled();
        long before = meter.digest();
        check.is("the digest again", meter.digest(), before);
        meter.append('z');
        check.holds("a longer text changes it", meter.digest() != before);
        meter.clearText();
        check.is("the digest as before", meter.digest(), before);
        meter.undo();
        check.holds("a saved state less changes it", meter.digest() != before);
    }
}
