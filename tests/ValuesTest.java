/** Promises 12 to 18: what the meter tells of persons, absences, bids, reasons and settings. */
public final class ValuesTest {
    private static final Check check = new Check("ValuesTest");

    public static void main(String[] args) {
        promise12Person();
        promise12FirstBids();
        promise12PersonRefused();
        promise13Work();
        promise14Absence();
        promise14AbsenceRefused();
        promise14WhoCanCover();
        promise15BidOf();
        promise16Why();
        promise16WhyWithRest();
        promise16WhyAtTheEnds();
        promise16WhyRefused();
        promise17Value();
        promise17MetersBelowZero();
        promise17MetersOfAnyPerson();
        promise17ValueRefused();
        promise18Setting();
        check.end();
    }

    /** Absence 0 is covered by a bid of 6, 1 by a turn, 2 is given up, 3 open with two bids, 4 open. */
    private static CoverMeter mixed() {
        CoverMeter meter = Check.withRosters(Check.shifts(0, 6, 12, 18), Check.shifts(24, 40), 0);
        meter.absent(0, 0);
        meter.absent(0, 6);
        meter.absent(0, 12);
        meter.absent(0, 18);
        meter.absent(1, 40);
        meter.bid(2, 0, 6);
        meter.cover(0);
        meter.cover(1);
        meter.giveUp(2);
        meter.bid(1, 3, 3);
        meter.bid(2, 3, 4);
        meter.bid(2, 4, 0);
        return meter;
    }

    private static void absenceIs(CoverMeter meter, int absence, int... due) {
        for (int what = 0; what < due.length; what++) {
            check.is("absence " + absence + ", " + what, meter.absence(absence, what), due[what]);
        }
    }

    private static void promise12Person() {
        CoverMeter meter = mixed();
        check.personIs(meter, 0, 4, 4, 0, -16, 0, 0, 0);
        check.personIs(meter, 1, 2, 1, 1, 10, 1, 2, 1);
        check.personIs(meter, 2, 0, 0, 1, 6, 0, 1, 2);
        meter.takeBack(2, 3);
        check.is("bids left", meter.person(2, 6), 1);
        meter.giveUp(3);
        check.is("no bid for what is given up", meter.person(1, 6), 0);
    }

    /** The first person's bids for the first absence and for others, with all the persons there can be. */
    private static void promise12FirstBids() {
        CoverMeter meter = Check.withRosters(0, Check.shifts(3, 9), 0, 0, 0, 0, 0, 0);
        meter.absent(1, 3);
        meter.absent(1, 9);
        meter.bid(0, 0, 1);
        meter.bid(7, 0, 2);
        meter.bid(0, 1, 3);
        check.is("the bids of the first person", meter.person(0, 6), 2);
        check.is("the bids of the last person", meter.person(7, 6), 1);
        check.is("the bids for the first absence", meter.absence(0, 5), 2);
        check.is("the bids for the second absence", meter.absence(1, 5), 1);
        check.is("all bids", meter.value(8), 3);
    }

    private static void promise12PersonRefused() {
        CoverMeter meter = mixed();
        for (int none : new int[] {-1, 3, 8, Integer.MIN_VALUE, Integer.MAX_VALUE}) {
            check.noPlace("person " + none, meter, () -> meter.person(none, 0));
            check.noPlace("person " + none + ", wrong question", meter, () -> meter.person(none, 7));
        }
        for (int what : new int[] {-1, 7, Integer.MIN_VALUE, Integer.MAX_VALUE}) {
            check.badArgument("question " + what, meter, () -> meter.person(0, what));
        }
    }

    private static void promise13Work() {
        CoverMeter meter = mixed();
        check.is("all absent", meter.work(0), 0);
        check.is("a roster with an absence and a cover", meter.work(1), Check.shifts(24, 6));
        check.is("a cover alone", meter.work(2), Check.shifts(0));
        check.is("the last shift", Check.withRosters(1L << 41).work(0), 1L << 41);
        for (int none : new int[] {-1, 3, 8, Integer.MIN_VALUE, Integer.MAX_VALUE}) {
            check.noPlace("work of " + none, meter, () -> meter.work(none));
        }
    }

    private static void promise14Absence() {
        CoverMeter meter = mixed();
        absenceIs(meter, 0, 0, 0, 1, 2, 6, 0);
        absenceIs(meter, 1, 0, 6, 2, 1, 10, 0);
        absenceIs(meter, 2, 0, 12, 3, CoverMeter.NONE, 0, 0);
        absenceIs(meter, 3, 0, 18, 0, CoverMeter.NONE, 0, 2);
        absenceIs(meter, 4, 1, 40, 0, CoverMeter.NONE, 0, 1);
    }

    private static void promise14AbsenceRefused() {
        CoverMeter meter = mixed();
        for (int none : Check.NOWHERE) {
            check.noPlace("absence " + none, meter, () -> meter.absence(none, 0));
            check.noPlace("absence " + none + ", wrong question", meter, () -> meter.absence(none, -1));
        }
        check.noPlace("the next absence", meter, () -> meter.absence(5, 0));
        for (int what : new int[] {-1, 7, Integer.MIN_VALUE, Integer.MAX_VALUE}) {
            check.badArgument("question " + what, meter, () -> meter.absence(0, what));
        }
    }

    private static void promise14WhoCanCover() {
        CoverMeter meter = mixed();
        check.is("of one covered, without who covers it", meter.absence(0, 6), 0b010);
        check.is("of another covered", meter.absence(1, 6), 0b100);
        check.is("of one given up", meter.absence(2, 6), 0b110);
        check.is("of an open one", meter.absence(3, 6), 0b110);
        check.is("of an open one of another", meter.absence(4, 6), 0b101);
        CoverMeter many = Check.withRosters(1, 0, 0, 0, 0, 0, 0, 0);
        many.absent(0, 0);
        check.is("all but the own", many.absence(0, 6), 0b11111110);
        CoverMeter alone = Check.withRosters(1);
        alone.absent(0, 0);
        check.is("nobody", alone.absence(0, 6), 0);
    }

    private static void promise15BidOf() {
        CoverMeter meter = mixed();
        check.is("a bid", meter.bidOf(1, 3), 3);
        check.is("a bid of 0", meter.bidOf(2, 4), 0);
        check.is("no bid", meter.bidOf(0, 4), CoverMeter.NONE);
        check.is("no bid for the own", meter.bidOf(1, 4), CoverMeter.NONE);
        check.is("a bid gone with the cover", meter.bidOf(2, 0), CoverMeter.NONE);
        for (int none : Check.NOWHERE) {
            check.noPlace("bidOf " + none, meter, () -> meter.bidOf(none, 0));
            check.noPlace("bidOf for " + none, meter, () -> meter.bidOf(0, none));
        }
        check.noPlace("bidOf the next person", meter, () -> meter.bidOf(3, 0));
        check.noPlace("bidOf for the next absence", meter, () -> meter.bidOf(0, 5));
    }

    private static void promise16Why() {
        CoverMeter meter = Check.withRosters(Check.shifts(10), Check.shifts(9, 10, 11),
                Check.shifts(9, 10, 11), Check.shifts(9, 11), Check.shifts(11), Check.shifts(8, 12), 0);
        meter.absent(0, 10);
        meter.absent(1, 10);
        check.is("the own", meter.why(0, 0), 1);
        check.is("absent then, and works before and behind", meter.why(1, 0), 2);
        check.is("works then, before and behind", meter.why(2, 0), 3);
        check.is("works before and behind", meter.why(3, 0), 4);
        check.is("works behind", meter.why(4, 0), 5);
        check.is("works not too near", meter.why(5, 0), 0);
        check.is("has no work", meter.why(6, 0), 0);
        check.is("the own comes before the absence then", meter.why(1, 1), 1);
        meter.cover(0);
        check.is("who covers it works then", meter.why(5, 0), 3);
        check.is("of one that is covered", meter.why(6, 0), 0);
        meter.giveUp(1);
        check.is("absent then, though given up", meter.why(1, 0), 2);
    }

    private static void promise16WhyWithRest() {
        CoverMeter meter = Check.withRosters(Check.shifts(20), Check.shifts(14), Check.shifts(15), Check.shifts(25),
                Check.shifts(26));
        meter.absent(0, 20);
        for (int rest = 0; rest <= 5; rest++) {
            meter.set(0, rest);
            check.is("six before, rest " + rest, meter.why(1, 0), 0);
            check.is("five before, rest " + rest, meter.why(2, 0), rest == 5 ? 4 : 0);
            check.is("five behind, rest " + rest, meter.why(3, 0), rest == 5 ? 5 : 0);
            check.is("six behind, rest " + rest, meter.why(4, 0), 0);
        }
    }

    private static void promise16WhyAtTheEnds() {
        CoverMeter meter = Check.withRosters(Check.shifts(0, 41), Check.shifts(41), Check.shifts(0), Check.shifts(36),
                Check.shifts(5), Check.shifts(31, 32, 33));
        meter.absent(0, 0);
        meter.absent(0, 41);
        meter.set(0, 5);
        check.is("the last is not before the first", meter.why(1, 0), 0);
        check.is("the first is not behind the last", meter.why(2, 1), 0);
        check.is("near before the last", meter.why(3, 1), 4);
        check.is("near behind the first", meter.why(4, 0), 5);
        check.is("far from both", meter.why(5, 0) + meter.why(5, 1), 0);
        check.is("the last itself", meter.why(1, 1), 3);
        check.is("the first itself", meter.why(2, 0), 3);
    }

    private static void promise16WhyRefused() {
        CoverMeter meter = mixed();
        for (int none : Check.NOWHERE) {
            check.noPlace("why " + none, meter, () -> meter.why(none, 0));
            check.noPlace("why for " + none, meter, () -> meter.why(0, none));
        }
        check.noPlace("why of the next person", meter, () -> meter.why(3, 0));
        check.noPlace("why for the next absence", meter, () -> meter.why(0, 5));
    }

    private static void promise17Value() {
        CoverMeter meter = mixed();
        check.valuesAre(meter, 3, 5, 2, 1, 1, 1, 10, -16, 3, 16, 0);
        meter.handOver(1, 2);
        check.valuesAre(meter, 3, 5, 2, 1, 1, 1, 16, -16, 3, 16, 1);
        meter.coverAll();
        check.valuesAre(meter, 3, 5, 0, 3, 1, 1, 16, -19, 0, 19, 1);
    }

    private static void promise17MetersBelowZero() {
        CoverMeter meter = Check.withRosters(Check.shifts(3));
        check.is("the greatest meter of one", meter.value(6), 0);
        check.is("the lowest meter of one", meter.value(7), 0);
        meter.addPerson(0);
        meter.absent(0, 3);
        meter.cover(0);
        check.is("the greatest meter", meter.value(6), 10);
        check.is("the lowest meter", meter.value(7), -10);
    }

    /** The greatest and the lowest meter are the last person's, then the first one's. */
    private static void promise17MetersOfAnyPerson() {
        CoverMeter meter = Check.withRosters(Check.shifts(3), 0, Check.shifts(9, 20));
        meter.absent(0, 3);
        meter.absent(2, 9);
        meter.absent(2, 20);
        meter.bid(2, 0, 7);
        meter.cover(0);
        check.is("the greatest meter is the last", meter.value(6), 7);
        check.is("the lowest meter is the first", meter.value(7), -7);
        meter.bid(0, 1, 20);
        meter.cover(1);
        check.is("the greatest meter is the first", meter.value(6), 13);
        check.is("the lowest meter is the last", meter.value(7), -13);
        meter.cover(2);
        check.is("the greatest meter is the first still", meter.value(6), 13);
        check.is("the lowest meter is lower", meter.value(7), -23);
        meter.roster(1, 30, true);
        meter.absent(1, 30);
        meter.set(1, 50);
        meter.cover(3);
        check.is("the lowest meter is between them", meter.value(7), -40);
    }

    private static void promise17ValueRefused() {
        CoverMeter meter = mixed();
        for (int what : new int[] {-1, 11, Integer.MIN_VALUE, Integer.MAX_VALUE}) {
            check.badArgument("value " + what, meter, () -> meter.value(what));
        }
    }

    private static void promise18Setting() {
        CoverMeter meter = new CoverMeter();
        meter.set(0, 3);
        meter.set(1, 4);
        meter.set(2, 5);
        for (int what = 0; what < 3; what++) {
            check.is("setting " + what, meter.setting(what), what + 3);
        }
        for (int what : new int[] {-1, 3, Integer.MIN_VALUE, Integer.MAX_VALUE}) {
            check.badArgument("setting " + what, meter, () -> meter.setting(what));
        }
    }
}
