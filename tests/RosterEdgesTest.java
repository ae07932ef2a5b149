import java.util.function.Supplier;

/** Promises 1 to 11: each sentence there that names a boundary case has a test of its own. */
public final class RosterEdgesTest {
    private static final Check check = new Check("RosterEdgesTest");

    public static void main(String[] args) {
        promise1WithoutPersonsAndAbsences();
        promise1OfItsOwn();
        promise2WhatOutOfRange();
        promise2ValueOutOfRange();
        promise2ThePreviousValue();
        promise3RosterOutOfRange();
        promise3EightPersons();
        promise3TheNumber();
        promises3And5TheOthersStay();
        promise4NoSuchPerson();
        promise4ShiftOutOfRange();
        promise4SoAlready();
        promise4AnAbsenceInTheShift();
        promise4CoversOneInTheShift();
        promise4TheShiftsThen();
        promise5NoSuchPerson();
        promise5ShiftOutOfRange();
        promise5NotInTheRoster();
        promise5AnAbsenceInIt();
        promise5ThirtyAbsences();
        promise6NoSuchPersonOrAbsence();
        promise6PointsOutOfRange();
        promise6NotOpen();
        promise6ThePersonsOwn();
        promise6TheBidsThen();
        promise7NoSuchPersonOrAbsence();
        promise7NoSuchBid();
        promise7ThePoints();
        promise8NoSuchAbsence();
        promise8NotOpen();
        promise8NobodyCan();
        promise9NothingOpen();
        promise9EverythingOpen();
        promise9AscendingAsFarAsSomebodyCan();
        promise10NoSuchPersonOrAbsence();
        promise10NotCovered();
        promise10ThePersonCoversIt();
        promise10ThePersonCannot();
        promise10ThePersonBefore();
        promise11NoSuchAbsence();
        promise11NotOpen();
        promise11TheBidsThatThereWere();
        check.end();
    }

    /**
     * The absences 0 to 4 of person 0: open with bids of 1 and 2, covered by 1 for a bid of 7, covered
     * by 2 as a turn, given up, open without bids. Person 3 works all the time.
     */
    private static CoverMeter mixed() {
        CoverMeter meter = Check.withRosters(Check.shifts(0, 6, 12, 18, 24, 30), 0, 0, Check.ALL_SHIFTS);
        for (int shift = 0; shift <= 24; shift += 6) {
            meter.absent(0, shift);
        }
        meter.bid(1, 1, 7);
        meter.cover(1);
        meter.bid(1, 2, 0);
        meter.takeBack(1, 2);
        meter.cover(2);
        meter.handOver(2, 1);
        meter.handOver(2, 2);
        meter.giveUp(3);
        meter.bid(1, 0, 0);
        meter.bid(2, 0, 20);
        return meter;
    }

    /** "Creates a meter without persons and absences.": so every number is the number of nothing */
    private static void promise1WithoutPersonsAndAbsences() {
        Supplier<CoverMeter> made = CoverMeter::new;
        check.noPlace("roster", made, m -> m.roster(0, 0, true));
        check.noPlace("absent", made, m -> m.absent(0, 0));
        check.noPlace("bid", made, m -> m.bid(0, 0, 0));
        check.noPlace("takeBack", made, m -> m.takeBack(0, 0));
        check.noPlace("cover", made, m -> m.cover(0));
        check.noPlace("handOver", made, m -> m.handOver(0, 0));
        check.noPlace("giveUp", made, m -> m.giveUp(0));
        check.noPlace("person", made, m -> m.person(0, 0));
        check.noPlace("work", made, m -> m.work(0));
        check.noPlace("absence", made, m -> m.absence(0, 0));
        check.noPlace("bidOf", made, m -> m.bidOf(0, 0));
        check.noPlace("why", made, m -> m.why(0, 0));
        check.noPlace("coverer", made, m -> m.coverer(0));
        check.noPlace("freeShifts", made, m -> m.freeShifts(0));
        check.badState("undo", made, m -> m.undo());
        check.is("coverAll", made.get().coverAll(), 0);
        check.is("coveredWith", made.get().coveredWith(0), 0);
        check.is("mostCovered", made.get().mostCovered(), 0);
        check.is("spread", made.get().spread(), 0.0);
        check.is("carryOut", made.get().carryOut(), 0);
        check.is("clearText", made.get().clearText(), 0);
    }

    /** What happens to one object does not show in another. */
    private static void promise1OfItsOwn() {
        long before = new CoverMeter().digest();
        CoverMeter full = Check.full();
        full.set(0, 5);
        full.coverAll();
        check.is("a new object beside a full one", new CoverMeter().digest(), before);
    }

    /** "`what`: 0 to 2, as told above" */
    private static void promise2WhatOutOfRange() {
        for (int what : new int[] {-1, 3, Integer.MIN_VALUE, Integer.MAX_VALUE}) {
            for (int value : new int[] {-1, 0, 1, 51}) {
                check.badArgument("what " + what + ", value " + value, RosterEdgesTest::mixed, m -> m.set(what, value));
            }
        }
    }

    /** "`value`: a value in its range", not in that of another setting */
    private static void promise2ValueOutOfRange() {
        int[][] outside = {{-1, 6, 10, 50}, {-1, 0, 51}, {-1, 51, 52}};
        for (int what = 0; what < 3; what++) {
            int setting = what;
            for (int value : outside[what]) {
                check.badArgument("set " + what + ", " + value, RosterEdgesTest::mixed, m -> m.set(setting, value));
            }
            for (int value : new int[] {Integer.MIN_VALUE, Integer.MAX_VALUE}) {
                check.badArgument("set " + what + ", " + value, RosterEdgesTest::mixed, m -> m.set(setting, value));
            }
        }
    }

    /** "Returns the previous value.": the first one, another, the same, the one after an undo */
    private static void promise2ThePreviousValue() {
        CoverMeter meter = new CoverMeter();
        check.is("the first", meter.set(2, 0), 20);
        check.is("the least", meter.set(2, 50), 0);
        check.is("the greatest", meter.set(2, 50), 50);
        check.is("the same", meter.set(2, 7), 50);
        meter.undo();
        check.is("the one after undo", meter.set(2, 8), 50);
        check.is("of another setting", meter.set(0, 0) * 100 + meter.set(1, 1), 110);
    }

    /** "`roster`: a set of shifts, 0 to 4398046511103" */
    private static void promise3RosterOutOfRange() {
        for (long roster : new long[] {-1, 4398046511104L, Long.MIN_VALUE, Long.MAX_VALUE, -4398046511103L}) {
            check.badArgument("roster " + roster, RosterEdgesTest::mixed, m -> m.addPerson(roster));
        }
        CoverMeter meter = new CoverMeter();
        for (long roster : new long[] {0, 1, 4398046511102L, 4398046511103L}) {
            int person = meter.addPerson(roster);
            check.is("the work", meter.work(person), roster);
        }
    }

    /** "Throws `IllegalStateException` if there are 8 persons", behind the exception for the roster */
    private static void promise3EightPersons() {
        for (long roster : new long[] {0, Check.ALL_SHIFTS}) {
            check.badState("a ninth person, roster " + roster, Check::full, m -> m.addPerson(roster));
        }
        for (long roster : new long[] {-1, Check.ALL_SHIFTS + 1}) {
            check.badArgument("a ninth person, roster " + roster, Check::full, m -> m.addPerson(roster));
        }
        check.badState("a ninth person, no absences", () -> Check.withRosters(0, 0, 0, 0, 0, 0, 0, 0),
                m -> m.addPerson(0));
        CoverMeter seven = Check.withRosters(Check.ALL_SHIFTS, 0, 0, 0, 0, 0, 0);
        for (int shift = 0; shift < 30; shift++) {
            seven.absent(0, shift);
        }
        check.is("the eighth person, thirty absences", seven.addPerson(0), 7);
    }

    /** "Returns the number of the person.": one that an undo took away is given again, with nothing left of it */
    private static void promise3TheNumber() {
        CoverMeter meter = Check.withRosters(Check.shifts(3), Check.shifts(5));
        meter.absent(0, 3);
        meter.undo();
        meter.undo();
        check.is("the number again", meter.addPerson(0), 1);
        check.is("the roster now", meter.person(1, 0), 0);
        check.is("the bids now", meter.person(1, 6), 0);
    }

    /** A new person or absence has the next number, so it takes nothing from those that are there. */
    private static void promises3And5TheOthersStay() {
        CoverMeter meter = Check.withRosters(Check.shifts(0, 40), Check.shifts(12), Check.shifts(24));
        meter.absent(0, 0);
        meter.absent(1, 12);
        meter.absent(2, 24);
        check.is("three turns", meter.coverAll(), 3);
        othersStay(meter);
        check.is("the next person", meter.addPerson(Check.shifts(6)), 3);
        othersStay(meter);
        check.is("the next absence, of the next person", meter.absent(3, 6), 3);
        othersStay(meter);
        check.is("the next absence, of the first person", meter.absent(0, 40), 4);
        check.is("the points of the first person's first one", meter.absence(0, 4), 10);
        meter.undo();
        othersStay(meter);
    }

    private static void othersStay(CoverMeter meter) {
        long[] work = {Check.shifts(12, 24, 40), Check.shifts(0), 0};
        int[] turns = {2, 1, 0};
        int[] meters = {10, 0, -10};
        for (int i = 0; i < 3; i++) {
            check.is("the work of " + i, meter.work(i), work[i]);
            check.is("the meter of " + i, meter.person(i, 3), meters[i]);
            check.is("the turns of " + i, meter.person(i, 4), turns[i]);
            check.is("the points of " + i, meter.absence(i, 4), 10);
        }
    }

    /** Promise 4: "Throws `IndexOutOfBoundsException` if there is no such person", before all others */
    private static void promise4NoSuchPerson() {
        for (int person : new int[] {-1, 4, 7, 8, Integer.MIN_VALUE, Integer.MAX_VALUE}) {
            for (int shift : new int[] {-1, 0, 41, 42}) {
                check.noPlace("person " + person + ", shift " + shift, RosterEdgesTest::mixed,
                        m -> m.roster(person, shift, true));
            }
        }
        check.is("the first person", mixed().roster(0, 30, false), 5);
        check.is("the last person", mixed().roster(3, 41, false), 41);
    }

    /** Promise 4: "Throws `IllegalArgumentException` if shift is out of range", though it is not in the roster */
    private static void promise4ShiftOutOfRange() {
        for (int shift : new int[] {-1, 42, 63, 64, Integer.MIN_VALUE, Integer.MAX_VALUE}) {
            check.badArgument("in " + shift, RosterEdgesTest::mixed, m -> m.roster(3, shift, true));
            check.badArgument("out " + shift, RosterEdgesTest::mixed, m -> m.roster(3, shift, false));
        }
    }

    /** Promise 4: "if it is so already" */
    private static void promise4SoAlready() {
        Supplier<CoverMeter> made = () -> Check.withRosters(Check.shifts(0, 41), 0, Check.ALL_SHIFTS);
        for (int shift : new int[] {0, 41}) {
            check.badState("in already", made, m -> m.roster(0, shift, true));
            check.badState("in already, of all", made, m -> m.roster(2, shift, true));
            check.badState("out already", made, m -> m.roster(1, shift, false));
        }
        check.badState("out already, beside one", made, m -> m.roster(0, 1, false));
        CoverMeter meter = made.get();
        meter.roster(1, 5, true);
        check.badState("in since just now", meter, () -> meter.roster(1, 5, true));
        meter.roster(1, 5, false);
        check.badState("out since just now", meter, () -> meter.roster(1, 5, false));
    }

    /** Promise 4: "the person has an absence in this shift": open, covered or given up */
    private static void promise4AnAbsenceInTheShift() {
        for (int shift = 0; shift <= 24; shift += 6) {
            int away = shift;
            check.badState("out " + shift, RosterEdgesTest::mixed, m -> m.roster(0, away, false));
            check.badState("in " + shift, RosterEdgesTest::mixed, m -> m.roster(0, away, true));
        }
        CoverMeter meter = mixed();
        check.is("beside the absences", meter.roster(0, 30, false), 5);
        check.is("another's absence", meter.roster(3, 0, false), 41);
    }

    /** Promise 4: "or covers one in it", but may have done so, or cover one beside it */
    private static void promise4CoversOneInTheShift() {
        check.badState("in, covered by a bid", RosterEdgesTest::mixed, m -> m.roster(1, 6, true));
        check.badState("out, covered by a bid", RosterEdgesTest::mixed, m -> m.roster(1, 6, false));
        check.badState("in, covered by a turn", RosterEdgesTest::mixed, m -> m.roster(2, 12, true));
        CoverMeter meter = mixed();
        check.is("handed over since", meter.roster(1, 12, true), 1);
        check.is("before a cover", meter.roster(1, 5, true), 2);
        check.is("behind a cover", meter.roster(1, 7, true), 3);
        check.is("an open one that has a bid", meter.roster(1, 0, true), 4);
    }

    /** "Returns the shifts in the roster then.": 0 to 42 */
    private static void promise4TheShiftsThen() {
        CoverMeter meter = Check.withRosters(0, Check.ALL_SHIFTS);
        for (int shift = 0; shift < 42; shift++) {
            check.is("in", meter.roster(0, 41 - shift, true), shift + 1);
            check.is("out", meter.roster(1, shift, false), 41 - shift);
        }
        check.is("all", meter.work(0), Check.ALL_SHIFTS);
        check.is("none", meter.work(1), 0);
    }

    /** Promise 5: "Throws `IndexOutOfBoundsException` if there is no such person", before all others */
    private static void promise5NoSuchPerson() {
        for (int person : new int[] {-1, 4, 8, Integer.MIN_VALUE, Integer.MAX_VALUE}) {
            for (int shift : new int[] {-1, 0, 41, 42}) {
                check.noPlace("person " + person + ", shift " + shift, RosterEdgesTest::mixed,
                        m -> m.absent(person, shift));
            }
        }
        check.noPlace("with 30 absences", Check::full, m -> m.absent(8, 42));
        check.is("the first person", mixed().absent(0, 30), 5);
        check.is("the last person", mixed().absent(3, 0), 5);
    }

    /** Promise 5: "Throws `IllegalArgumentException` if shift is out of range", with 30 absences too */
    private static void promise5ShiftOutOfRange() {
        for (int shift : new int[] {-1, 42, 63, 64, Integer.MIN_VALUE, Integer.MAX_VALUE}) {
            check.badArgument("shift " + shift, RosterEdgesTest::mixed, m -> m.absent(3, shift));
            check.badArgument("shift " + shift + ", 30 absences", Check::full, m -> m.absent(0, shift));
        }
    }

    /** Promise 5: "if the shift is not in the roster of the person", though the person covers one in it */
    private static void promise5NotInTheRoster() {
        check.badState("an empty roster", RosterEdgesTest::mixed, m -> m.absent(1, 0));
        check.badState("beside one", RosterEdgesTest::mixed, m -> m.absent(0, 31));
        check.badState("a cover by a bid", RosterEdgesTest::mixed, m -> m.absent(1, 6));
        check.badState("a cover by a turn", RosterEdgesTest::mixed, m -> m.absent(2, 12));
    }

    /** Promise 5: "the person has an absence in it": open, covered or given up */
    private static void promise5AnAbsenceInIt() {
        for (int shift = 0; shift <= 24; shift += 6) {
            int away = shift;
            check.badState("absent twice in " + shift, RosterEdgesTest::mixed, m -> m.absent(0, away));
            check.is("another in " + shift, mixed().absent(3, shift), 5);
        }
    }

    /** Promise 5: "or there are 30 absences": whatever became of them */
    private static void promise5ThirtyAbsences() {
        check.badState("30 open ones", Check::full, m -> m.absent(0, 30));
        Supplier<CoverMeter> done = () -> {
            CoverMeter meter = Check.full();
            meter.giveUp(0);
            meter.coverAll();
            return meter;
        };
        check.badState("30 that are covered or given up", done, m -> m.absent(0, 30));
        CoverMeter meter = Check.full();
        meter.undo();
        check.is("29", meter.value(1), 29);
        check.is("the thirtieth", meter.absent(0, 41), 29);
    }

    /** Promise 6: "Throws `IndexOutOfBoundsException` if there is no such person or absence", before all others */
    private static void promise6NoSuchPersonOrAbsence() {
        for (int points : new int[] {-1, 0, 20, 21}) {
            for (int none : Check.NOWHERE) {
                check.noPlace("person " + none, RosterEdgesTest::mixed, m -> m.bid(none, 0, points));
                check.noPlace("absence " + none, RosterEdgesTest::mixed, m -> m.bid(1, none, points));
            }
            check.noPlace("the next person", RosterEdgesTest::mixed, m -> m.bid(4, 0, points));
            check.noPlace("the next absence", RosterEdgesTest::mixed, m -> m.bid(1, 5, points));
            check.noPlace("the next ones", RosterEdgesTest::mixed, m -> m.bid(4, 5, points));
        }
        check.is("the last ones", mixed().bid(3, 4, 20), 1);
    }

    /** Promise 6: "Throws `IllegalArgumentException` if points is out of range", before the state is looked at */
    private static void promise6PointsOutOfRange() {
        for (int points : new int[] {-1, 21, 50, 51, Integer.MIN_VALUE, Integer.MAX_VALUE}) {
            for (int absence = 0; absence < 5; absence++) {
                int any = absence;
                check.badArgument("another's, " + points, RosterEdgesTest::mixed, m -> m.bid(1, any, points));
                check.badArgument("the own, " + points, RosterEdgesTest::mixed, m -> m.bid(0, any, points));
            }
        }
    }

    /** Promise 6: "Throws `IllegalStateException` if the absence is not open" */
    private static void promise6NotOpen() {
        for (int absence = 1; absence <= 3; absence++) {
            int closed = absence;
            for (int points : new int[] {0, 20}) {
                check.badState("absence " + absence, RosterEdgesTest::mixed, m -> m.bid(1, closed, points));
            }
        }
    }

    /** Promise 6: "or is the person's own" */
    private static void promise6ThePersonsOwn() {
        for (int points : new int[] {0, 20}) {
            check.badState("the own with bids", RosterEdgesTest::mixed, m -> m.bid(0, 0, points));
            check.badState("the own without bids", RosterEdgesTest::mixed, m -> m.bid(0, 4, points));
        }
        Supplier<CoverMeter> several = () -> {
            CoverMeter meter = Check.withRosters(1, 1, 1);
            meter.absent(2, 0);
            meter.absent(0, 0);
            meter.absent(1, 0);
            return meter;
        };
        int[] absentee = {2, 0, 1};
        for (int absence = 0; absence < 3; absence++) {
            int any = absence;
            for (int person = 0; person < 3; person++) {
                int bidder = person;
                if (person == absentee[absence]) {
                    check.badState("the own of " + person, several, m -> m.bid(bidder, any, 0));
                } else {
                    check.is("another's", several.get().bid(bidder, any, 0), 1);
                }
            }
        }
    }

    /** "Returns the bids for the absence then.": 1 to 7, also of the first person and of one who cannot cover it */
    private static void promise6TheBidsThen() {
        CoverMeter meter = Check.withRosters(0, 0, Check.shifts(3, 9), 0, Check.ALL_SHIFTS, 0, 0, 0);
        meter.absent(2, 3);
        meter.absent(2, 9);
        int[] bidders = {0, 7, 4, 1, 3, 6, 5};
        for (int i = 0; i < 7; i++) {
            check.is("another bid", meter.bid(bidders[i], 0, 20), i + 1);
            check.is("the same bid", meter.bid(bidders[i], 0, 20), i + 1);
        }
        check.is("the first for another", meter.bid(0, 1, 0), 1);
        check.is("the second for another", meter.bid(7, 1, 0), 2);
    }

    /** Promise 7: "Throws `IndexOutOfBoundsException` if there is no such person or absence" */
    private static void promise7NoSuchPersonOrAbsence() {
        check.noSuchPersonOrAbsence("takeBack", (meter, person, absence) -> meter.takeBack(person, absence));
    }

    /** "Throws `IllegalStateException` if there is no such bid" */
    private static void promise7NoSuchBid() {
        check.badState("never bid", RosterEdgesTest::mixed, m -> m.takeBack(3, 0));
        check.badState("the own", RosterEdgesTest::mixed, m -> m.takeBack(0, 0));
        check.badState("no bids at all", RosterEdgesTest::mixed, m -> m.takeBack(1, 4));
        check.badState("covered by this bid", RosterEdgesTest::mixed, m -> m.takeBack(1, 1));
        check.badState("covered by a turn", RosterEdgesTest::mixed, m -> m.takeBack(1, 2));
        check.badState("given up", RosterEdgesTest::mixed, m -> m.takeBack(1, 3));
        CoverMeter meter = mixed();
        meter.takeBack(1, 0);
        check.badState("taken back already", meter, () -> meter.takeBack(1, 0));
        meter.giveUp(0);
        check.badState("given up since", meter, () -> meter.takeBack(2, 0));
    }

    /** "Returns the points of the bid.": 0 to the greatest, and over it if it was lowered */
    private static void promise7ThePoints() {
        CoverMeter meter = mixed();
        check.is("0", meter.takeBack(1, 0), 0);
        check.is("another's stays", meter.absence(0, 5), 1);
        check.is("the greatest", meter.takeBack(2, 0), 20);
        check.is("none left", meter.absence(0, 5), 0);
        meter.set(2, 50);
        meter.bid(2, 0, 50);
        meter.set(2, 0);
        check.is("over the greatest", meter.takeBack(2, 0), 50);
        check.is("bid again", meter.bid(2, 0, 0), 1);
    }

    /** Promise 8: "Throws `IndexOutOfBoundsException` if there is no such absence" */
    private static void promise8NoSuchAbsence() {
        for (int none : Check.NOWHERE) {
            check.noPlace("absence " + none, RosterEdgesTest::mixed, m -> m.cover(none));
        }
        check.noPlace("the next absence", RosterEdgesTest::mixed, m -> m.cover(5));
        check.noPlace("behind the thirtieth", Check::full, m -> m.cover(30));
        check.is("the first absence", Check.full().cover(0), 1);
        check.is("the thirtieth absence", Check.full().cover(29), 1);
    }

    /** Promise 8: "Throws `IllegalStateException` if it is not open" */
    private static void promise8NotOpen() {
        for (int absence = 1; absence <= 3; absence++) {
            int closed = absence;
            check.badState("absence " + absence, RosterEdgesTest::mixed, m -> m.cover(closed));
        }
    }

    /** Promise 8: "or nobody can cover it": no other person, or each with a reason */
    private static void promise8NobodyCan() {
        check.badState("no other person", () -> {
            CoverMeter meter = Check.withRosters(Check.shifts(3));
            meter.absent(0, 3);
            return meter;
        }, m -> m.cover(0));
        Supplier<CoverMeter> made = () -> {
            CoverMeter meter = Check.withRosters(Check.shifts(3), Check.shifts(2), Check.shifts(3), Check.shifts(4),
                    Check.shifts(3));
            meter.absent(0, 3);
            meter.absent(4, 3);
            meter.bid(1, 0, 0);
            return meter;
        };
        check.badState("each with a reason", made, m -> m.cover(0));
        CoverMeter meter = made.get();
        meter.roster(3, 4, false);
        check.is("one reason less", meter.cover(0), 3);
    }

    /** Promise 9 with nothing open: "Returns the absences that were covered.", and it is undoable still */
    private static void promise9NothingOpen() {
        CoverMeter meter = new CoverMeter();
        check.is("no persons", meter.coverAll(), 0);
        check.is("a saved state", meter.undo(), 0);
        CoverMeter closed = mixed();
        closed.giveUp(0);
        closed.giveUp(4);
        check.is("all covered or given up", closed.coverAll(), 0);
        check.is("covered before", closed.value(3) + closed.value(4), 2);
    }

    /** Promise 9 with 30 open ones, the greatest number there can be */
    private static void promise9EverythingOpen() {
        CoverMeter meter = Check.full();
        meter.set(0, 0);
        check.is("all thirty", meter.coverAll(), 30);
        check.is("none open", meter.value(2), 0);
        check.is("by turns", meter.value(4), 30);
        meter.undo();
        check.is("all open again", meter.value(2), 30);
    }

    /** Promise 9: "Covers all open absences, in ascending order, as far as somebody can." */
    private static void promise9AscendingAsFarAsSomebodyCan() {
        CoverMeter meter = Check.withRosters(Check.shifts(8, 7, 6, 5), 0);
        for (int shift = 8; shift >= 5; shift--) {
            meter.absent(0, shift);
        }
        check.is("every second", meter.coverAll(), 2);
        int[] coverer = {1, CoverMeter.NONE, 1, CoverMeter.NONE};
        for (int absence = 0; absence < 4; absence++) {
            check.is("who covers " + absence, meter.absence(absence, 3), coverer[absence]);
        }
        check.is("nobody can", meter.coverAll(), 0);
    }

    /** Promise 10: "Throws `IndexOutOfBoundsException` if there is no such person or absence", before all others */
    private static void promise10NoSuchPersonOrAbsence() {
        for (int none : Check.NOWHERE) {
            for (int absence = 0; absence < 5; absence++) {
                int any = absence;
                check.noPlace("person " + none, RosterEdgesTest::mixed, m -> m.handOver(any, none));
            }
            check.noPlace("absence " + none, RosterEdgesTest::mixed, m -> m.handOver(none, 2));
        }
        check.noPlace("the next person", RosterEdgesTest::mixed, m -> m.handOver(1, 4));
        check.noPlace("the next absence", RosterEdgesTest::mixed, m -> m.handOver(5, 2));
    }

    /** Promise 10: "Throws `IllegalStateException` if it is not covered" */
    private static void promise10NotCovered() {
        for (int absence : new int[] {0, 3, 4}) {
            check.badState("absence " + absence, RosterEdgesTest::mixed, m -> m.handOver(absence, 2));
        }
    }

    /** Promise 10: "the person covers it" */
    private static void promise10ThePersonCoversIt() {
        check.badState("by a bid", RosterEdgesTest::mixed, m -> m.handOver(1, 1));
        check.badState("by a turn", RosterEdgesTest::mixed, m -> m.handOver(2, 2));
        CoverMeter meter = mixed();
        meter.handOver(1, 2);
        check.badState("since just now", meter, () -> meter.handOver(1, 2));
        check.is("back to the one before", meter.handOver(1, 1), 2);
    }

    /** Promise 10: "or the person cannot cover it": for each reason there is */
    private static void promise10ThePersonCannot() {
        Supplier<CoverMeter> made = () -> {
            CoverMeter meter = Check.withRosters(Check.shifts(10), Check.shifts(10), Check.shifts(10), Check.shifts(8),
                    Check.shifts(12), Check.shifts(7, 13), 0);
            meter.set(0, 2);
            meter.absent(0, 10);
            meter.absent(1, 10);
            meter.bid(6, 0, 5);
            meter.cover(0);
            return meter;
        };
        for (int person = 0; person <= 4; person++) {
            int hindered = person;
            check.is("the reason", made.get().why(person, 0), person + 1);
            check.badState("reason " + (person + 1), made, m -> m.handOver(0, hindered));
        }
        check.is("no reason", made.get().handOver(0, 5), 6);
    }

    /** "Returns the person who covered it before.": the first and the last number */
    private static void promise10ThePersonBefore() {
        CoverMeter meter = Check.withRosters(0, Check.shifts(3), 0, 0, 0, 0, 0, 0);
        meter.absent(1, 3);
        check.is("covered", meter.cover(0), 0);
        check.is("to the last", meter.handOver(0, 7), 0);
        check.is("to the first", meter.handOver(0, 0), 7);
        check.is("both counted", meter.value(10), 2);
    }

    /** Promise 11: "Throws `IndexOutOfBoundsException` if there is no such absence" */
    private static void promise11NoSuchAbsence() {
        for (int none : Check.NOWHERE) {
            check.noPlace("absence " + none, RosterEdgesTest::mixed, m -> m.giveUp(none));
        }
        check.noPlace("the next absence", RosterEdgesTest::mixed, m -> m.giveUp(5));
        check.is("the last absence", mixed().giveUp(4), 0);
        check.is("the thirtieth absence", Check.full().giveUp(29), 0);
    }

    /** Promise 11: "Throws `IllegalStateException` if it is not open" */
    private static void promise11NotOpen() {
        for (int absence = 1; absence <= 3; absence++) {
            int closed = absence;
            check.badState("absence " + absence, RosterEdgesTest::mixed, m -> m.giveUp(closed));
        }
    }

    /** "Returns the bids that there were.": 0 to 7, "bids for it are gone" */
    private static void promise11TheBidsThatThereWere() {
        for (int bids = 0; bids <= 7; bids++) {
            CoverMeter meter = Check.withRosters(0, 0, 0, 0, 0, 0, 0, Check.shifts(3, 9));
            meter.absent(7, 3);
            meter.absent(7, 9);
            meter.bid(0, 0, 5);
            for (int person = 0; person < bids; person++) {
                meter.bid(person, 1, 0);
            }
            check.is("the bids", meter.giveUp(1), bids);
            for (int person = 0; person < 8; person++) {
                check.is("gone", meter.bidOf(person, 1), CoverMeter.NONE);
            }
            check.is("the bid for another", meter.bidOf(0, 0), 5);
        }
    }
}
