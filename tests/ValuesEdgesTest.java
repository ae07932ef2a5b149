/** Promises 12 to 18: each sentence there that names a boundary case has a test of its own. */
public final class ValuesEdgesTest {
    private static final int[] FAR = {Integer.MIN_VALUE, Integer.MAX_VALUE};
    private static final Check check = new Check("ValuesEdgesTest");

    public static void main(String[] args) {
        promise12NoSuchPerson();
        promise12WhatOutOfRange();
        promise12NothingThere();
        promise12EverythingThere();
        promise12TheGreatestMeters();
        promise12OnlyOpenAbsencesWithBids();
        promise13NoSuchPerson();
        promise13TheLeastAndTheGreatestSet();
        promise14NoSuchAbsence();
        promise14WhatOutOfRange();
        promise14ThePersonAndTheShift();
        promise14NoneAndNoPoints();
        promise14TheLeastAndTheMostBids();
        promise14TheLeastAndTheGreatestSet();
        promise15NoSuchPersonOrAbsence();
        promise15NoneIfThereIsNoSuchBid();
        promise15TheLeastAndTheGreatestBid();
        promise16NoSuchPersonOrAbsence();
        promise16TheFirstReasonOfSeveral();
        promise16TooNearAtTheEnds();
        promise17WhatOutOfRange();
        promise17NoneWithoutPersons();
        promise17NothingThere();
        promise17EverythingThere();
        promise17ThePointsOfAllCovered();
        promise17GreatestAndLowestMeter();
        promise17HandedOverSoFar();
        promise18WhatOutOfRange();
        check.end();
    }

    /** Thirty absences of person 0, each covered by person 1 for 50 points: by bids, or by turns. */
    private static CoverMeter greatestMeters(boolean byBids) {
        CoverMeter meter = Check.withRosters(Check.ALL_SHIFTS, 0, 0);
        meter.set(0, 0);
        meter.set(1, 50);
        meter.set(2, 50);
        for (int shift = 0; shift < 30; shift++) {
            meter.absent(0, shift);
            meter.roster(2, shift, true);
            if (byBids) {
                meter.bid(1, shift, 50);
            }
        }
        meter.coverAll();
        return meter;
    }

    /** Promise 12: "Throws `IndexOutOfBoundsException` if there is no such person", before the other */
    private static void promise12NoSuchPerson() {
        for (int what = -1; what <= 7; what++) {
            int any = what;
            for (int none : FAR) {
                check.noPlace("person " + none, Check::full, m -> m.person(none, any));
            }
            check.noPlace("person -1", Check::full, m -> m.person(-1, any));
            check.noPlace("person 8", Check::full, m -> m.person(8, any));
            check.noPlace("the next person", () -> Check.withRosters(0, 1), m -> m.person(2, any));
        }
        check.is("the first person", Check.full().person(0, 0), 42);
        check.is("the last person", Check.full().person(7, 0), 0);
    }

    /** Promise 12: "Throws `IllegalArgumentException` if what is out of range" */
    private static void promise12WhatOutOfRange() {
        for (int what : new int[] {-1, 7, Integer.MIN_VALUE, Integer.MAX_VALUE}) {
            check.badArgument("what " + what, Check::full, m -> m.person(0, what));
            check.badArgument("what " + what + " of the last", Check::full, m -> m.person(7, what));
        }
    }

    private static void promise12NothingThere() {
        check.personIs(Check.withRosters(0), 0, 0, 0, 0, 0, 0, 0, 0);
        check.personIs(Check.full(), 7, 0, 0, 0, 0, 0, 0, 0);
    }

    /** The most absences, covers, turns, shifts of work and bids that a person can have. */
    private static void promise12EverythingThere() {
        check.personIs(Check.withRosters(Check.ALL_SHIFTS), 0, 42, 0, 0, 0, 0, 42, 0);
        CoverMeter meter = Check.full();
        for (int absence = 0; absence < 30; absence++) {
            meter.bid(1, absence, 0);
        }
        check.personIs(meter, 0, 42, 30, 0, 0, 0, 12, 0);
        check.personIs(meter, 1, 0, 0, 0, 0, 0, 0, 30);
        CoverMeter turns = greatestMeters(false);
        check.personIs(turns, 1, 0, 0, 30, 1500, 30, 30, 0);
        for (int shift = 30; shift < 42; shift++) {
            turns.roster(1, shift, true);
        }
        check.personIs(turns, 1, 12, 0, 30, 1500, 30, 42, 0);
    }

    /** "3 the meter": thirty covers of 50 points up and down */
    private static void promise12TheGreatestMeters() {
        CoverMeter meter = greatestMeters(true);
        check.personIs(meter, 0, 42, 30, 0, -1500, 0, 12, 0);
        check.personIs(meter, 1, 0, 0, 30, 1500, 0, 30, 0);
        check.personIs(meter, 2, 30, 0, 0, 0, 0, 30, 0);
    }

    /** "6 the open absences for which the person has bid": not one that was covered, given up or taken back */
    private static void promise12OnlyOpenAbsencesWithBids() {
        CoverMeter meter = Check.full();
        for (int absence = 0; absence < 4; absence++) {
            meter.bid(7, absence, 0);
        }
        int[] left = {4, 3, 2, 1};
        check.is("all", meter.person(7, 6), left[0]);
        meter.cover(0);
        check.is("one covered", meter.person(7, 6), left[1]);
        meter.giveUp(2);
        check.is("one given up", meter.person(7, 6), left[2]);
        meter.takeBack(7, 3);
        check.is("one taken back", meter.person(7, 6), left[3]);
        meter.bid(7, 1, 20);
        check.is("one bid in the place of another", meter.person(7, 6), 1);
    }

    /** Promise 13: "Throws `IndexOutOfBoundsException` if there is no such person" */
    private static void promise13NoSuchPerson() {
        for (int none : new int[] {-1, 8, Integer.MIN_VALUE, Integer.MAX_VALUE}) {
            check.noPlace("person " + none, Check::full, m -> m.work(none));
        }
        check.noPlace("the next person", () -> Check.withRosters(1), m -> m.work(1));
    }

    /** "Returns the set of shifts.": none, the first, the last, all */
    private static void promise13TheLeastAndTheGreatestSet() {
        for (long set : new long[] {0, 1, 2199023255552L, 4398046511103L}) {
            check.is("the set", Check.withRosters(set).work(0), set);
        }
        check.is("without thirty absences", Check.full().work(0), 4398046511103L - 1073741823L);
        check.is("thirty covers", greatestMeters(true).work(1), 1073741823L);
    }

    /** Promise 14: "Throws `IndexOutOfBoundsException` if there is no such absence", before the other */
    private static void promise14NoSuchAbsence() {
        for (int what = -1; what <= 7; what++) {
            int any = what;
            for (int none : Check.NOWHERE) {
                check.noPlace("absence " + none, Check::full, m -> m.absence(none, any));
            }
            check.noPlace("no absence yet", () -> Check.withRosters(1), m -> m.absence(0, any));
        }
        check.is("the first absence", Check.full().absence(0, 1), 0);
        check.is("the last absence", Check.full().absence(29, 1), 29);
    }

    /** Promise 14: "Throws `IllegalArgumentException` if what is out of range" */
    private static void promise14WhatOutOfRange() {
        for (int what : new int[] {-1, 7, Integer.MIN_VALUE, Integer.MAX_VALUE}) {
            check.badArgument("what " + what, Check::full, m -> m.absence(0, what));
            check.badArgument("what " + what + " of the last", Check::full, m -> m.absence(29, what));
        }
    }

    /** "0 the person, 1 the shift": the first and the last of each */
    private static void promise14ThePersonAndTheShift() {
        CoverMeter meter = Check.withRosters(Check.shifts(41), 0, 0, 0, 0, 0, 0, Check.shifts(0, 41));
        int[][] due = {{7, 41}, {0, 41}, {7, 0}};
        for (int absence = 0; absence < 3; absence++) {
            meter.absent(due[absence][0], due[absence][1]);
        }
        for (int absence = 0; absence < 3; absence++) {
            check.is("the person", meter.absence(absence, 0), due[absence][0]);
            check.is("the shift", meter.absence(absence, 1), due[absence][1]);
        }
    }

    /** "the person who covers it (NONE if nobody does), 4 its points (0 if it is not covered)" */
    private static void promise14NoneAndNoPoints() {
        CoverMeter meter = Check.full();
        meter.bid(1, 0, 20);
        check.is("nobody, with a bid", meter.absence(0, 3), CoverMeter.NONE);
        check.is("no points, with a bid", meter.absence(0, 4), 0);
        meter.giveUp(0);
        check.is("nobody, given up", meter.absence(0, 3), CoverMeter.NONE);
        check.is("no points, given up", meter.absence(0, 4), 0);
        meter.bid(7, 29, 0);
        meter.cover(29);
        check.is("the last person", meter.absence(29, 3), 7);
        check.is("covered, for no points", meter.absence(29, 4), 0);
        check.is("by a bid", meter.absence(29, 2), 1);
        CoverMeter first = Check.withRosters(0, Check.shifts(41));
        first.absent(1, 41);
        first.cover(0);
        check.is("the first person", first.absence(0, 3), 0);
        check.is("the points of a turn", first.absence(0, 4), 10);
    }

    /** "5 the bids for it": 0 to 7 */
    private static void promise14TheLeastAndTheMostBids() {
        CoverMeter meter = Check.full();
        for (int person = 1; person < 8; person++) {
            check.is("the bids before", meter.absence(29, 5), person - 1);
            meter.bid(person, 29, 0);
        }
        check.is("the most bids", meter.absence(29, 5), 7);
        check.is("no bids for another", meter.absence(28, 5), 0);
        meter.cover(29);
        check.is("no bids for a covered one", meter.absence(29, 5), 0);
    }

    /** "6 the set of persons who can cover it now (bit p for the person p)": nobody, all the others */
    private static void promise14TheLeastAndTheGreatestSet() {
        CoverMeter nobody = Check.withRosters(1, 1, 2);
        nobody.absent(0, 0);
        check.is("nobody", nobody.absence(0, 6), 0);
        check.is("all but the first", Check.full().absence(0, 6), 0b11111110);
        CoverMeter last = Check.withRosters(0, 0, 0, 0, 0, 0, 0, 1);
        last.absent(7, 0);
        check.is("all but the last", last.absence(0, 6), 0b01111111);
        last.roster(6, 1, true);
        check.is("now one less", last.absence(0, 6), 0b00111111);
    }

    /** Promise 15: "Throws `IndexOutOfBoundsException` if there is no such person or absence" */
    private static void promise15NoSuchPersonOrAbsence() {
        check.noSuchPersonOrAbsence("bidOf", (meter, person, absence) -> meter.bidOf(person, absence));
    }

    /** "NONE if there is no such bid": never made, the own, taken back, covered, given up */
    private static void promise15NoneIfThereIsNoSuchBid() {
        CoverMeter meter = Check.full();
        check.is("never made", meter.bidOf(7, 29), CoverMeter.NONE);
        check.is("the own", meter.bidOf(0, 29), CoverMeter.NONE);
        for (int absence = 0; absence < 3; absence++) {
            meter.bid(7, absence, 5);
        }
        meter.takeBack(7, 0);
        meter.cover(1);
        meter.giveUp(2);
        for (int absence = 0; absence < 3; absence++) {
            check.is("no more: " + absence, meter.bidOf(7, absence), CoverMeter.NONE);
        }
    }

    /** "Returns the points": 0 to 50, of the first and of the last bid that there can be */
    private static void promise15TheLeastAndTheGreatestBid() {
        CoverMeter meter = Check.withRosters(0, Check.ALL_SHIFTS, 0, 0, 0, 0, 0, 0);
        for (int shift = 0; shift < 30; shift++) {
            meter.absent(1, shift);
        }
        meter.set(2, 50);
        meter.bid(0, 0, 0);
        meter.bid(7, 29, 50);
        check.is("the first", meter.bidOf(0, 0), 0);
        check.is("the last", meter.bidOf(7, 29), 50);
        check.is("beside the first", meter.bidOf(2, 0), CoverMeter.NONE);
        check.is("beside the last", meter.bidOf(6, 29), CoverMeter.NONE);
        check.is("the last person's first", meter.bidOf(7, 0), CoverMeter.NONE);
    }

    /** Promise 16: "Throws `IndexOutOfBoundsException` if there is no such person or absence" */
    private static void promise16NoSuchPersonOrAbsence() {
        check.noSuchPersonOrAbsence("why", (meter, person, absence) -> meter.why(person, absence));
    }

    /** "of several reasons, the first one is told": each with all that come behind it */
    private static void promise16TheFirstReasonOfSeveral() {
        long near = Check.shifts(9, 10, 11);
        CoverMeter meter = Check.withRosters(near, near, near, Check.shifts(9, 11), Check.shifts(11), 0);
        meter.absent(0, 10);
        meter.absent(1, 10);
        int[] reasons = {1, 2, 3, 4, 5, 0};
        for (int person = 0; person < 6; person++) {
            check.is("the reason of " + person, meter.why(person, 0), reasons[person]);
        }
    }

    /** "4 the person works too near before it, 5 .. behind it": no shift comes before 0 or behind 41 */
    private static void promise16TooNearAtTheEnds() {
        CoverMeter meter = Check.withRosters(Check.shifts(0, 41), Check.shifts(1), Check.shifts(40),
                Check.shifts(5, 36), Check.shifts(6, 35));
        meter.absent(0, 0);
        meter.absent(0, 41);
        int[][] first = {{1, 0, 0, 0, 0}, {1, 5, 0, 0, 0}, {1, 5, 0, 5, 0}};
        int[][] last = {{1, 0, 0, 0, 0}, {1, 0, 4, 0, 0}, {1, 0, 4, 4, 0}};
        int[] rests = {0, 1, 5};
        for (int i = 0; i < 3; i++) {
            meter.set(0, rests[i]);
            for (int person = 0; person < 5; person++) {
                check.is("the first shift, rest " + rests[i], meter.why(person, 0), first[i][person]);
                check.is("the last shift, rest " + rests[i], meter.why(person, 1), last[i][person]);
            }
        }
    }

    /** Promise 17: "Throws `IllegalArgumentException` if what is out of range" */
    private static void promise17WhatOutOfRange() {
        for (int what : new int[] {-1, 11, Integer.MIN_VALUE, Integer.MAX_VALUE}) {
            check.badArgument("what " + what, Check::full, m -> m.value(what));
            check.badArgument("what " + what + " of nothing", CoverMeter::new, m -> m.value(what));
        }
    }

    /** "NONE for what = 6 and 7 without persons": not with one, and again after an undo */
    private static void promise17NoneWithoutPersons() {
        CoverMeter meter = new CoverMeter();
        check.is("the greatest meter of none", meter.value(6), CoverMeter.NONE);
        check.is("the lowest meter of none", meter.value(7), CoverMeter.NONE);
        meter.addPerson(0);
        check.is("the greatest meter of one", meter.value(6), 0);
        check.is("the lowest meter of one", meter.value(7), 0);
        meter.undo();
        check.is("the greatest meter of none again", meter.value(6), CoverMeter.NONE);
        check.is("the lowest meter of none again", meter.value(7), CoverMeter.NONE);
    }

    private static void promise17NothingThere() {
        check.valuesAre(new CoverMeter(), 0, 0, 0, 0, 0, 0, CoverMeter.NONE, CoverMeter.NONE, 0, 0, 0);
        check.valuesAre(Check.withRosters(Check.ALL_SHIFTS), 1, 0, 0, 0, 0, 0, 0, 0, 0, 0, 0);
    }

    /** The greatest numbers of persons, of absences of each kind, and of bids. */
    private static void promise17EverythingThere() {
        CoverMeter meter = Check.full();
        check.valuesAre(meter, 8, 30, 30, 0, 0, 0, 0, 0, 0, 0, 0);
        for (int absence = 0; absence < 30; absence++) {
            for (int person = 1; person < 8; person++) {
                meter.bid(person, absence, 0);
            }
        }
        check.valuesAre(meter, 8, 30, 30, 0, 0, 0, 0, 0, 210, 0, 0);
        meter.takeBack(1, 0);
        meter.takeBack(7, 29);
        check.valuesAre(meter, 8, 30, 30, 0, 0, 0, 0, 0, 208, 0, 0);
        for (int absence = 0; absence < 30; absence++) {
            meter.giveUp(absence);
        }
        check.valuesAre(meter, 8, 30, 0, 0, 0, 30, 0, 0, 0, 0, 0);
        check.valuesAre(greatestMeters(true), 3, 30, 0, 30, 0, 0, 1500, -1500, 0, 1500, 0);
        check.valuesAre(greatestMeters(false), 3, 30, 0, 0, 30, 0, 1500, -1500, 0, 1500, 0);
    }

    /** "9 the points of all covered absences": each with its own, 0 among them, none of the others */
    private static void promise17ThePointsOfAllCovered() {
        CoverMeter meter = Check.full();
        meter.bid(1, 0, 0);
        meter.cover(0);
        check.is("a bid of 0", meter.value(9), 0);
        meter.cover(10);
        check.is("a turn of 10", meter.value(9), 10);
        meter.set(1, 50);
        check.is("what is set later does not count", meter.value(9), 10);
        meter.cover(20);
        meter.bid(1, 29, 20);
        check.is("open with a bid", meter.value(9), 60);
        meter.giveUp(29);
        meter.handOver(20, 7);
        check.is("given up and handed over", meter.value(9), 60);
    }

    /** "6 the greatest meter, 7 the lowest meter": of the first, the last or one in between; all above or below 0 */
    private static void promise17GreatestAndLowestMeter() {
        int[][] meters = {{1, 2, 0}, {2, 1, 0}, {0, 1, 2}};
        for (int[] order : meters) {
            CoverMeter meter = Check.withRosters(Check.shifts(0, 20), Check.shifts(0, 20), Check.shifts(0, 20));
            meter.set(0, 0);
            meter.roster(order[0], 0, false);
            meter.roster(order[1], 20, false);
            meter.absent(order[2], 0);
            meter.bid(order[0], 0, 7);
            meter.cover(0);
            check.is("the greatest", meter.value(6), 7);
            check.is("the lowest", meter.value(7), -7);
            meter.absent(order[0], 20);
            meter.bid(order[1], 1, 20);
            meter.cover(1);
            check.is("the greatest then", meter.value(6), 20);
            check.is("the lowest then", meter.value(7), -13);
        }
    }

    /** "10 the covers that were handed over so far": 0 at first, refused ones do not count, undone ones no more */
    private static void promise17HandedOverSoFar() {
        CoverMeter meter = Check.full();
        check.is("none", meter.value(10), 0);
        meter.cover(0);
        check.is("a cover is none", meter.value(10), 0);
        for (int i = 1; i <= 40; i++) {
            meter.handOver(0, 1 + i % 7);
            check.is("the same one again", meter.value(10), i);
        }
        check.badState("a refused one", meter, () -> meter.handOver(0, 0));
        check.is("a refused one does not count", meter.value(10), 40);
        meter.undo();
        check.is("an undone one does not count", meter.value(10), 39);
    }

    /** Promise 18: "`what`: 0 to 2" */
    private static void promise18WhatOutOfRange() {
        for (int what : new int[] {-1, 3, Integer.MIN_VALUE, Integer.MAX_VALUE}) {
            check.badArgument("what " + what, Check::full, m -> m.setting(what));
        }
        int[] first = {1, 10, 20};
        for (int what = 0; what < 3; what++) {
            check.is("the first value", Check.full().setting(what), first[what]);
        }
    }
}
