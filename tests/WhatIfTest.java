/** Promises 19 to 23: what would be, asked without a change. */
public final class WhatIfTest {
    private static final Check check = new Check("WhatIfTest");

    public static void main(String[] args) {
        promise19Coverer();
        promise20CoveredWith();
        promise20CoveredWithInTurn();
        promise20CoveredWithOfAnyPerson();
        promise21MostCovered();
        promise21MoreThanCoverAll();
        promise21LeavesOneOut();
        promise21AtMostFive();
        promise22FreeShifts();
        promise23Spread();
        check.end();
    }

    private static void promise19Coverer() {
        CoverMeter meter = Check.withRosters(Check.shifts(3, 9, 15), Check.shifts(10), 0);
        meter.absent(0, 3);
        meter.absent(0, 9);
        meter.absent(0, 15);
        long before = meter.digest();
        check.is("by a turn", meter.coverer(0), 1);
        check.is("by a turn, who can", meter.coverer(1), 2);
        check.is("nothing changes", meter.digest(), before);
        meter.bid(2, 0, 9);
        check.is("by a bid", meter.coverer(0), 2);
        check.is("cover does so", meter.cover(0), 2);
        check.is("of one covered", meter.coverer(0), CoverMeter.NONE);
        meter.giveUp(2);
        check.is("of one given up", meter.coverer(2), CoverMeter.NONE);
        meter.roster(2, 8, true);
        check.is("of one that nobody can cover", meter.coverer(1), CoverMeter.NONE);
        for (int none : Check.NOWHERE) {
            check.noPlace("coverer of " + none, meter, () -> meter.coverer(none));
        }
        check.noPlace("coverer of the next", meter, () -> meter.coverer(3));
    }

    private static void promise20CoveredWith() {
        CoverMeter meter = Check.withRosters(Check.shifts(6, 20, 30), Check.shifts(9, 32), 0);
        meter.absent(0, 6);
        meter.absent(0, 20);
        meter.absent(0, 30);
        meter.giveUp(1);
        meter.roster(2, 4, true);
        meter.roster(2, 31, true);
        meter.set(0, 4);
        long before = meter.digest();
        check.is("with rest 0", meter.coveredWith(0), 2);
        check.is("with rest 1", meter.coveredWith(1), 2);
        check.is("with rest 2", meter.coveredWith(2), 1);
        check.is("with rest 3", meter.coveredWith(3), 0);
        check.is("with the rest that is set", meter.coveredWith(4), 0);
        check.is("with rest 5", meter.coveredWith(5), 0);
        check.is("nothing changes", meter.digest(), before);
        for (int rest : new int[] {-1, 6, Integer.MIN_VALUE, Integer.MAX_VALUE}) {
            check.badArgument("with rest " + rest, meter, () -> meter.coveredWith(rest));
        }
        check.is("without persons", new CoverMeter().coveredWith(5), 0);
    }

    /** The first cover stands in the way of the second: of one person, and by the turns. */
    private static void promise20CoveredWithInTurn() {
        CoverMeter meter = Check.withRosters(Check.shifts(6, 8), 0);
        meter.absent(0, 6);
        meter.absent(0, 8);
        check.is("one after the other, near", meter.coveredWith(2), 1);
        check.is("one after the other, far", meter.coveredWith(1), 2);
        meter.addPerson(0);
        check.is("the turns change", meter.coveredWith(2), 2);
        meter.bid(1, 0, 0);
        meter.bid(1, 1, 0);
        check.is("a bid is passed over if it cannot be", meter.coveredWith(2), 2);
        meter.roster(2, 3, true);
        meter.takeBack(1, 0);
        check.is("the lowest number first", meter.coveredWith(5), 1);
        check.is("coverAll does so", meter.set(0, 5) + meter.coverAll(), 2);
    }

    private static void promise20CoveredWithOfAnyPerson() {
        CoverMeter meter = Check.withRosters(0, Check.shifts(9));
        meter.absent(1, 9);
        check.is("by the first person", meter.coveredWith(0), 1);
        check.is("by the first person together", meter.mostCovered(), 1);
    }

    private static void promise21MostCovered() {
        CoverMeter meter = Check.withRosters(Check.shifts(6, 7, 8), 0);
        check.is("none open", meter.mostCovered(), 0);
        meter.absent(0, 6);
        check.is("one", meter.mostCovered(), 1);
        meter.absent(0, 7);
        check.is("two that are too near", meter.mostCovered(), 1);
        meter.absent(0, 8);
        long before = meter.digest();
        check.is("two that are not", meter.mostCovered(), 2);
        check.is("nothing changes", meter.digest(), before);
        meter.set(0, 0);
        check.is("one person covers several", meter.mostCovered(), 3);
        meter.set(0, 5);
        meter.addPerson(0);
        check.is("two persons", meter.mostCovered(), 2);
        meter.giveUp(0);
        check.is("not those given up", meter.mostCovered(), 2);
        meter.cover(1);
        check.is("beside a cover", meter.mostCovered(), 1);
        meter.cover(2);
        check.is("not those covered", meter.mostCovered(), 0);
    }

    /** coverAll gives 0 to person 1, the only one who can cover 1; bids and turns do not count here. */
    private static void promise21MoreThanCoverAll() {
        CoverMeter meter = Check.withRosters(Check.shifts(6, 9), 0, Check.shifts(10));
        meter.set(0, 3);
        meter.absent(0, 6);
        meter.absent(0, 9);
        check.is("coverAll covers", meter.coveredWith(3), 1);
        check.is("together", meter.mostCovered(), 2);
        meter.bid(1, 0, 0);
        check.is("whatever bids there are", meter.mostCovered(), 2);
    }

    /** The best leaves out the first absence, or the one in the middle. */
    private static void promise21LeavesOneOut() {
        CoverMeter meter = Check.withRosters(Check.shifts(8, 6, 10), 0);
        meter.set(0, 3);
        meter.absent(0, 8);
        meter.absent(0, 6);
        meter.absent(0, 10);
        check.is("without the first", meter.mostCovered(), 2);
        CoverMeter other = Check.withRosters(Check.shifts(6, 8, 10), 0);
        other.set(0, 3);
        other.absent(0, 6);
        other.absent(0, 8);
        other.absent(0, 10);
        check.is("without the second", other.mostCovered(), 2);
    }

    private static void promise21AtMostFive() {
        CoverMeter meter = Check.withRosters(Check.shifts(0, 6, 12, 18, 24, 30), 0, 0, 0, 0, 0, 0, 0);
        for (int shift = 0; shift <= 24; shift += 6) {
            meter.absent(0, shift);
        }
        check.is("five open", meter.mostCovered(), 5);
        meter.absent(0, 30);
        check.is("six open", meter.mostCovered(), CoverMeter.NONE);
        meter.giveUp(0);
        check.is("five open of six", meter.mostCovered(), 5);
        for (int person = 1; person < 8; person++) {
            meter.roster(person, 30, true);
        }
        check.is("the last by nobody", meter.mostCovered(), 4);

        CoverMeter full = Check.withRosters(Check.ALL_SHIFTS, 0);
        for (int shift = 0; shift < 30; shift++) {
            full.absent(0, shift);
        }
        for (int absence = 0; absence < 25; absence++) {
            full.giveUp(absence);
        }
        check.is("the last five of thirty", full.mostCovered(), 3);
    }

    private static void promise22FreeShifts() {
        CoverMeter meter = Check.withRosters(0, Check.ALL_SHIFTS, Check.shifts(0, 20, 41), Check.shifts(10));
        check.is("without work", meter.freeShifts(0), 42);
        check.is("with all work", meter.freeShifts(1), 0);
        check.is("with rest 1", meter.freeShifts(2), 42 - 2 - 3 - 2);
        meter.set(0, 0);
        check.is("with rest 0", meter.freeShifts(2), 39);
        meter.set(0, 5);
        check.is("with rest 5", meter.freeShifts(2), 42 - 6 - 11 - 6);
        meter.absent(3, 10);
        check.is("without the absence alone", meter.freeShifts(3), 41);
        meter.absent(2, 20);
        check.is("an absence needs no rest", meter.freeShifts(2), 42 - 6 - 1 - 6);
        meter.cover(0);
        check.is("a cover needs rest", meter.freeShifts(0), 42 - 11);
        meter.giveUp(1);
        check.is("an absence that is given up", meter.freeShifts(2), 42 - 6 - 1 - 6);
        for (int none : new int[] {-1, 4, 8, Integer.MIN_VALUE, Integer.MAX_VALUE}) {
            check.noPlace("freeShifts of " + none, meter, () -> meter.freeShifts(none));
        }
    }

    private static void promise23Spread() {
        CoverMeter meter = new CoverMeter();
        check.is("without persons", meter.spread(), 0.0);
        meter.addPerson(Check.shifts(3));
        check.is("of one", meter.spread(), 0.0);
        meter.addPerson(0);
        meter.addPerson(0);
        meter.absent(0, 3);
        meter.set(1, 11);
        meter.cover(0);
        check.is("of three", meter.spread(), 22.0 / 3.0);
        meter.addPerson(0);
        check.is("of four", meter.spread(), 5.5);
        for (int person = 4; person < 8; person++) {
            meter.addPerson(0);
        }
        check.is("of eight", meter.spread(), 2.75);
        long before = meter.digest();
        meter.spread();
        check.is("nothing changes", meter.digest(), before);
    }
}
