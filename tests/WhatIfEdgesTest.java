import java.util.function.Supplier;

/** Promises 19 to 23: each sentence there that names a boundary case has a test of its own. */
public final class WhatIfEdgesTest {
    private static final Check check = new Check("WhatIfEdgesTest");

    public static void main(String[] args) {
        promise19NoSuchAbsence();
        promise19NoneIfItIsNotOpen();
        promise19NoneIfNobodyCan();
        promise19TheFirstAndTheLastPerson();
        promise20RestOutOfRange();
        promise20NothingOpen();
        promise20EverythingOpen();
        promise20JustTheRest();
        promise20OneAfterTheOtherAsCoverAll();
        promise21NothingOpen();
        promise21AtMostFiveOpen();
        promise21OnlyOpenOnes();
        promise21NobodyCan();
        promise21OnePersonCoversSeveral();
        promise21WhenTheOthersAreCoveredSo();
        promise21ByAPersonEach();
        promise21WhateverBidsAndTurns();
        promise22NoSuchPerson();
        promise22NoneAndAll();
        promise22RestAtTheEnds();
        promise22OneAlone();
        promise22ShiftsWithAnAbsence();
        promise23WithoutPersons();
        promise23NoPoints();
        promise23AbsoluteValues();
        promise23PartsOfAPoint();
        promise23TheGreatest();
        check.end();
    }

    /** Person 0 is absent from the shifts told; the others have these rosters. */
    private static CoverMeter absentFrom(int[] shifts, long... rosters) {
        CoverMeter meter = Check.withRosters(Check.ALL_SHIFTS);
        for (long roster : rosters) {
            meter.addPerson(roster);
        }
        for (int shift : shifts) {
            meter.absent(0, shift);
        }
        return meter;
    }

    /** Promise 19: "Throws `IndexOutOfBoundsException` if there is no such absence" */
    private static void promise19NoSuchAbsence() {
        for (int none : Check.NOWHERE) {
            check.noPlace("absence " + none, Check::full, m -> m.coverer(none));
        }
        check.noPlace("no absence yet", () -> Check.withRosters(1, 0), m -> m.coverer(0));
        check.noPlace("the next absence", () -> absentFrom(new int[] {3}, 0), m -> m.coverer(1));
        check.is("the thirtieth absence", Check.full().coverer(29), 1);
    }

    /** "NONE if it is not open", though somebody could */
    private static void promise19NoneIfItIsNotOpen() {
        CoverMeter meter = absentFrom(new int[] {0, 6, 12}, 0, 0);
        meter.bid(2, 0, 5);
        check.is("open", meter.coverer(0), 2);
        meter.cover(0);
        meter.cover(1);
        meter.giveUp(2);
        for (int absence = 0; absence < 3; absence++) {
            check.holds("somebody could", meter.absence(absence, 6) != 0);
            check.is("not open: " + absence, meter.coverer(absence), CoverMeter.NONE);
        }
    }

    /** "or nobody can cover it", a bidder too */
    private static void promise19NoneIfNobodyCan() {
        check.is("no other person", absentFrom(new int[] {3}).coverer(0), CoverMeter.NONE);
        CoverMeter meter = absentFrom(new int[] {3}, Check.shifts(2), Check.shifts(3), Check.shifts(4));
        meter.bid(1, 0, 0);
        check.is("each has a reason", meter.coverer(0), CoverMeter.NONE);
        meter.roster(3, 4, false);
        check.is("one reason less", meter.coverer(0), 3);
    }

    /** "Returns the person": 0, which is not nobody, to 7 */
    private static void promise19TheFirstAndTheLastPerson() {
        CoverMeter meter = Check.withRosters(0, Check.shifts(3), 0, 0, 0, 0, 0, 0);
        meter.absent(1, 3);
        check.is("the first by a turn", meter.coverer(0), 0);
        meter.bid(7, 0, 20);
        check.is("the last by a bid", meter.coverer(0), 7);
        meter.bid(0, 0, 20);
        check.is("the first by an equal bid", meter.coverer(0), 0);
        meter.roster(1, 9, true);
        meter.absent(1, 9);
        meter.bid(4, 1, 20);
        check.is("of the last absence", meter.coverer(1), 4);
        long before = meter.digest();
        check.is("asked again", meter.coverer(0), 0);
        check.is("nothing changes", meter.digest(), before);
        check.is("cover does so", meter.cover(0), 0);
    }

    /** Promise 20: "`rest`: 0 to 5" */
    private static void promise20RestOutOfRange() {
        for (int rest : new int[] {-1, 6, Integer.MIN_VALUE, Integer.MAX_VALUE}) {
            check.badArgument("rest " + rest, Check::full, m -> m.coveredWith(rest));
            check.badArgument("rest " + rest + " of nothing", CoverMeter::new, m -> m.coveredWith(rest));
        }
    }

    private static void promise20NothingOpen() {
        for (int rest = 0; rest <= 5; rest++) {
            check.is("no persons", new CoverMeter().coveredWith(rest), 0);
            check.is("no absences", Check.withRosters(0, 1).coveredWith(rest), 0);
        }
        CoverMeter meter = absentFrom(new int[] {0, 6}, 0);
        meter.cover(0);
        meter.giveUp(1);
        check.is("one covered, one given up", meter.coveredWith(0), 0);
    }

    /** Thirty open absences in a row: one person covers every (rest + 1)-th of them, the others as many. */
    private static void promise20EverythingOpen() {
        int[] byOne = {30, 15, 10, 8, 6, 5};
        int[] bySeven = {30, 30, 30, 30, 30, 30};
        for (int rest = 0; rest <= 5; rest++) {
            int[] row = new int[30];
            for (int i = 0; i < 30; i++) {
                row[i] = i;
            }
            check.is("by one, rest " + rest, absentFrom(row, 0).coveredWith(rest), byOne[rest]);
            check.is("by seven, rest " + rest, Check.full().coveredWith(rest), bySeven[rest]);
        }
    }

    /** "with another rest": each of the six, whatever is set, which stays */
    private static void promise20JustTheRest() {
        for (int set = 0; set <= 5; set++) {
            for (int rest = 0; rest <= 5; rest++) {
                CoverMeter meter = absentFrom(new int[] {20}, Check.shifts(20 - 3), Check.shifts(20 + 4));
                meter.set(0, set);
                long before = meter.digest();
                check.is("rest " + rest + ", set " + set, meter.coveredWith(rest), rest < 4 ? 1 : 0);
                check.is("nothing changes", meter.digest(), before);
                check.is("the rest stays", meter.setting(0), set);
            }
        }
    }

    /** "one after the other as it does": the first ones take the place, the points and the turns of the later ones */
    private static void promise20OneAfterTheOtherAsCoverAll() {
        for (int rest = 0; rest <= 5; rest++) {
            CoverMeter meter = absentFrom(new int[] {9, 7, 11, 14, 6, 2, 25, 20, 22}, Check.shifts(13, 24), 0,
                    Check.shifts(4, 17, 30));
            meter.bid(2, 1, 3);
            meter.bid(3, 1, 3);
            meter.bid(2, 6, 0);
            int told = meter.coveredWith(rest);
            meter.set(0, rest);
            check.is("coverAll with rest " + rest, meter.coverAll(), told);
        }
        int[] due = {9, 9, 9, 7, 6, 6};
        for (int rest = 0; rest <= 5; rest++) {
            CoverMeter meter = absentFrom(new int[] {9, 7, 11, 14, 6, 2, 25, 20, 22}, 0, 0);
            check.is("by two, rest " + rest, meter.coveredWith(rest), due[rest]);
        }
    }

    private static void promise21NothingOpen() {
        check.is("no persons", new CoverMeter().mostCovered(), 0);
        check.is("no absences", Check.withRosters(0, 1).mostCovered(), 0);
        CoverMeter meter = absentFrom(new int[] {0, 6}, 0);
        meter.cover(0);
        meter.giveUp(1);
        check.is("one covered, one given up", meter.mostCovered(), 0);
    }

    /** "Returns this number, if there are at most 5 open absences; otherwise NONE." */
    private static void promise21AtMostFiveOpen() {
        CoverMeter meter = Check.full();
        check.is("thirty open", meter.mostCovered(), CoverMeter.NONE);
        for (int absence = 0; absence < 12; absence++) {
            meter.giveUp(absence);
            meter.cover(29 - absence);
        }
        check.is("six open", meter.mostCovered(), CoverMeter.NONE);
        for (int open = 5; open >= 0; open--) {
            meter.giveUp(17 - open);
            check.is("open", meter.value(2), open);
            check.is(open + " open of thirty", meter.mostCovered(), open);
        }
        CoverMeter alone = absentFrom(new int[] {0, 1, 2, 3, 4, 5});
        check.is("six open, nobody can", alone.mostCovered(), CoverMeter.NONE);
    }

    /** "of open absences": somebody could cover those that are covered or given up, nobody can the open one */
    private static void promise21OnlyOpenOnes() {
        CoverMeter meter = absentFrom(new int[] {3, 9, 20, 30}, 0, 0);
        meter.cover(0);
        meter.giveUp(1);
        meter.cover(2);
        meter.roster(1, 30, true);
        meter.roster(2, 31, true);
        check.is("somebody could cover the first", meter.absence(0, 6), 0b100);
        check.is("nobody can cover the open one", meter.mostCovered(), 0);
        meter.roster(2, 31, false);
        check.is("somebody can cover the open one", meter.mostCovered(), 1);
    }

    private static void promise21NobodyCan() {
        int[] five = {0, 1, 2, 3, 4};
        check.is("no other person", absentFrom(five).mostCovered(), 0);
        check.is("all work then", absentFrom(five, Check.ALL_SHIFTS, Check.ALL_SHIFTS).mostCovered(), 0);
        check.is("one is too near", absentFrom(five, Check.shifts(1, 3)).mostCovered(), 0);
    }

    /** "(one person can cover several)": all five, if they are just far enough */
    private static void promise21OnePersonCoversSeveral() {
        for (int rest = 0; rest <= 5; rest++) {
            int far = rest + 1;
            CoverMeter meter = absentFrom(new int[] {0, far, 2 * far, 3 * far, 4 * far}, 0);
            meter.set(0, rest);
            check.is("far enough, rest " + rest, meter.mostCovered(), 5);
            if (rest < 5) {
                meter.set(0, rest + 1);
                check.is("too near, rest " + (rest + 1), meter.mostCovered(), 3);
            }
        }
    }

    /** "who can cover it when the others are covered so": the best leaves out, or gives to another, an early one */
    private static void promise21WhenTheOthersAreCoveredSo() {
        CoverMeter leaves = absentFrom(new int[] {20, 15, 25, 10, 30}, 0);
        leaves.set(0, 5);
        check.is("without the first, or without the others", leaves.mostCovered(), 3);
        CoverMeter gives = absentFrom(new int[] {20, 18, 22}, 0, Check.shifts(15, 25));
        gives.set(0, 4);
        check.is("the first to the second person, the others near each other", gives.mostCovered(), 2);
        gives.set(0, 3);
        check.is("the first to the second person", gives.mostCovered(), 3);
        check.is("coverAll gives it to the first", gives.coveredWith(3), 1);
        CoverMeter beside = absentFrom(new int[] {20, 22}, 0);
        beside.set(0, 3);
        beside.cover(0);
        check.is("near a cover that there is", beside.mostCovered(), 0);
    }

    /** "each by a person": the same shift of five persons, and of a person of its own among them */
    private static void promise21ByAPersonEach() {
        CoverMeter meter = Check.withRosters(1, 1, 1, 1, 1, 0, 0, 0);
        for (int person = 0; person < 5; person++) {
            meter.absent(person, 0);
        }
        check.is("three persons for five", meter.mostCovered(), 3);
        meter.giveUp(0);
        meter.giveUp(1);
        check.is("three persons for three", meter.mostCovered(), 3);
        CoverMeter swapped = Check.withRosters(Check.shifts(3), Check.shifts(9));
        swapped.absent(0, 3);
        swapped.absent(1, 9);
        check.is("each the other's", swapped.mostCovered(), 2);
    }

    /** "whatever bids and turns there are" */
    private static void promise21WhateverBidsAndTurns() {
        CoverMeter meter = absentFrom(new int[] {30, 6, 9}, 0, Check.shifts(10));
        meter.set(0, 3);
        meter.bid(2, 0, 0);
        meter.cover(0);
        check.is("without bids and turns", meter.mostCovered(), 2);
        meter.bid(1, 1, 0);
        meter.bid(2, 2, 0);
        check.is("with bids", meter.mostCovered(), 2);
        meter.takeBack(1, 1);
        meter.absent(0, 40);
        meter.cover(3);
        check.is("with a turn", meter.mostCovered(), 2);
        long before = meter.digest();
        meter.mostCovered();
        check.is("nothing changes", meter.digest(), before);
    }

    /** Promise 22: "Throws `IndexOutOfBoundsException` if there is no such person" */
    private static void promise22NoSuchPerson() {
        for (int none : new int[] {-1, 8, Integer.MIN_VALUE, Integer.MAX_VALUE}) {
            check.noPlace("person " + none, Check::full, m -> m.freeShifts(none));
        }
        check.noPlace("the next person", () -> Check.withRosters(0), m -> m.freeShifts(1));
        check.is("the first person", Check.withRosters(0).freeShifts(0), 42);
        check.is("the last person", Check.full().freeShifts(7), 42);
    }

    /** None of the 42 shifts, all of them, and all but just one. */
    private static void promise22NoneAndAll() {
        long allBut20 = Check.ALL_SHIFTS - Check.shifts(20);
        CoverMeter meter = Check.withRosters(0, Check.ALL_SHIFTS, allBut20, Check.shifts(20), Check.shifts(18, 22));
        int[] withRest0 = {42, 0, 1, 41, 40};
        int[] withRest1 = {42, 0, 0, 39, 36};
        int[] withRest5 = {42, 0, 0, 31, 27};
        for (int person = 0; person < 5; person++) {
            meter.set(0, 0);
            check.is("with rest 0", meter.freeShifts(person), withRest0[person]);
            meter.set(0, 1);
            check.is("with rest 1", meter.freeShifts(person), withRest1[person]);
            meter.set(0, 5);
            check.is("with rest 5", meter.freeShifts(person), withRest5[person]);
        }
    }

    /** "and has the rest": just the shifts that there are are counted at both ends */
    private static void promise22RestAtTheEnds() {
        CoverMeter meter = Check.withRosters(1, Check.shifts(41), Check.shifts(0, 41), Check.shifts(2, 39));
        for (int rest = 0; rest <= 5; rest++) {
            meter.set(0, rest);
            check.is("the first, rest " + rest, meter.freeShifts(0), 41 - rest);
            check.is("the last, rest " + rest, meter.freeShifts(1), 41 - rest);
            check.is("both, rest " + rest, meter.freeShifts(2), 40 - 2 * rest);
            check.is("near both, rest " + rest, meter.freeShifts(3), 40 - 2 * rest - 2 * Math.min(rest, 2));
        }
    }

    /** "if there was an absence of somebody else in each of them, one alone": those that there are do not count */
    private static void promise22OneAlone() {
        CoverMeter meter = Check.full();
        check.is("beside thirty open ones", meter.freeShifts(1), 42);
        meter.cover(0);
        check.is("beside one that is covered", meter.freeShifts(1), 40);
        meter.set(0, 5);
        check.is("with rest 5", meter.freeShifts(1), 36);
        meter.handOver(0, 2);
        check.is("handed over", meter.freeShifts(1), 42);
    }

    /** "has no absence": open, covered or given up; no rest before or behind it */
    private static void promise22ShiftsWithAnAbsence() {
        CoverMeter meter = Check.withRosters(Check.shifts(0, 20, 41), 0);
        meter.set(0, 5);
        check.is("all work", meter.freeShifts(0), 42 - 6 - 11 - 6);
        meter.absent(0, 20);
        check.is("one away", meter.freeShifts(0), 42 - 6 - 1 - 6);
        meter.absent(0, 0);
        meter.absent(0, 41);
        check.is("all away", meter.freeShifts(0), 39);
        meter.cover(0);
        meter.giveUp(1);
        check.is("covered and given up", meter.freeShifts(0), 39);
    }

    /** "0.0 without persons" */
    private static void promise23WithoutPersons() {
        CoverMeter meter = new CoverMeter();
        check.is("no persons", meter.spread(), 0.0);
        meter.addPerson(1);
        meter.undo();
        check.is("no persons any more", meter.spread(), 0.0);
        check.is("the sign of it", Double.doubleToRawLongBits(meter.spread()), 0);
    }

    private static void promise23NoPoints() {
        check.is("one person", Check.withRosters(1).spread(), 0.0);
        check.is("eight persons", Check.full().spread(), 0.0);
        CoverMeter meter = Check.full();
        meter.bid(1, 0, 0);
        meter.cover(0);
        check.is("a bid of 0", meter.spread(), 0.0);
    }

    /** "the sum of the absolute values of all meters": of the first and the last person too */
    private static void promise23AbsoluteValues() {
        Supplier<CoverMeter> made = () -> Check.withRosters(Check.shifts(3), 0, 0, Check.shifts(9));
        CoverMeter first = made.get();
        first.absent(0, 3);
        first.bid(3, 0, 7);
        first.cover(0);
        check.is("below 0 first, above 0 last", first.spread(), 3.5);
        CoverMeter last = made.get();
        last.absent(3, 9);
        last.bid(0, 0, 6);
        last.cover(0);
        check.is("above 0 first, below 0 last", last.spread(), 3.0);
    }

    /** "converted to double, divided by the number of persons, converted to double" */
    private static void promise23PartsOfAPoint() {
        CoverMeter meter = Check.withRosters(Check.shifts(3), 0);
        meter.absent(0, 3);
        meter.bid(1, 0, 1);
        meter.cover(0);
        double[] due = {1.0, 0.6666666666666666, 0.5, 0.4, 0.3333333333333333, 0.2857142857142857, 0.25};
        for (int persons = 2; persons <= 8; persons++) {
            check.is("two points, persons " + persons, meter.spread(), due[persons - 2]);
            if (persons < 8) {
                meter.addPerson(0);
            }
        }
    }

    /** Thirty covers of 50 points, the most that can be. */
    private static void promise23TheGreatest() {
        CoverMeter meter = Check.full();
        meter.set(0, 0);
        meter.set(1, 50);
        check.is("thirty turns", meter.coverAll(), 30);
        check.is("of eight persons", meter.spread(), 375.0);
    }
}
