import java.util.function.Supplier;

/**
 * "Terms": each sentence there that names a boundary case has a test of its own. The sentences on
 * the text are in TextEdgesTest, those on undo and exceptions in StateEdgesTest.
 */
public final class TermsEdgesTest {
    private static final Check check = new Check("TermsEdgesTest");

    public static void main(String[] args) {
        shiftsFrom0To41();
        personsFrom0To7();
        personsStartWithNothing();
        settingsFirstLeastAndGreatest();
        absencesFrom0To29();
        absenceOnlyInTheRoster();
        oneAbsenceOfAPersonInAShift();
        absenceIsOpenCoveredOrGivenUp();
        workOfRosterAndCovers();
        coverOnlyForAnother();
        coverNotWithAnAbsenceThen();
        restReachesJustSoFar();
        restEndsWithTheShifts();
        restFromCoversNotFromAbsences();
        coverWhetherOpenOrNot();
        bidsFrom0ToTheGreatest();
        aBidInThePlaceOfAnother();
        aBidStaysWhenTheGreatestIsLowered();
        lowestBid();
        equalBidsLowestMeter();
        equalBidsAndMetersLowestNumber();
        biddersWhoCannotArePassedOver();
        turnIfNoBidderCan();
        fewestTurns();
        equalTurnsLowestMeter();
        equalTurnsAndMetersLowestNumber();
        openIfNobodyCan();
        pointsAddedAndTaken();
        bidsGoneWithTheCover();
        pointsMoveWithTheCover();
        turnsStayWithTheHandOver();
        check.end();
    }

    /** Person 0 is absent from the shifts 0, 6, 12, ..; the three others have no work. */
    private static CoverMeter absences(int count) {
        CoverMeter meter = Check.withRosters(Check.ALL_SHIFTS, 0, 0, 0);
        for (int i = 0; i < count; i++) {
            meter.absent(0, 6 * i);
        }
        return meter;
    }

    private static int coverByBid(CoverMeter meter, int absence, int person, int points) {
        meter.bid(person, absence, points);
        return meter.cover(absence);
    }

    /** "There are 42 shifts, numbered from 0" */
    private static void shiftsFrom0To41() {
        Supplier<CoverMeter> made = () -> Check.withRosters(0, Check.ALL_SHIFTS);
        CoverMeter meter = made.get();
        check.is("all shifts", meter.person(1, 0), 42);
        check.is("the first shift in", meter.roster(0, 0, true), 1);
        check.is("the last shift in", meter.roster(0, 41, true), 2);
        check.is("both", meter.work(0), 1L + (1L << 41));
        check.is("absent in the first shift", meter.absent(1, 0), 0);
        check.is("absent in the last shift", meter.absent(1, 41), 1);
        check.is("the first shift", meter.absence(0, 1), 0);
        check.is("the last shift", meter.absence(1, 1), 41);
        for (int shift : new int[] {-1, 42}) {
            check.badArgument("shift " + shift + " in", made, m -> m.roster(0, shift, true));
            check.badArgument("shift " + shift + " out", made, m -> m.roster(1, shift, false));
            check.badArgument("absent in shift " + shift, made, m -> m.absent(1, shift));
        }
    }

    /** "Persons. There are at most 8, numbered from 0." */
    private static void personsFrom0To7() {
        CoverMeter meter = new CoverMeter();
        for (int person = 0; person < 8; person++) {
            int next = person;
            check.noPlace("a person before it is there", meter, () -> meter.work(next));
            check.is("the number", meter.addPerson(person), person);
            check.is("the roster", meter.work(person), person);
        }
        check.noPlace("person -1", Check::full, m -> m.work(-1));
        check.noPlace("person 8", Check::full, m -> m.work(8));
        check.badState("a ninth person", Check::full, m -> m.addPerson(0));
        check.is("still eight", meter.value(0), 8);
    }

    /** "a meter of points, 0 at first, and turns": whatever the others have by then */
    private static void personsStartWithNothing() {
        CoverMeter meter = absences(2);
        meter.cover(0);
        coverByBid(meter, 1, 2, 20);
        int last = meter.addPerson(0);
        for (int what = 0; what <= 6; what++) {
            check.is("the new person's " + what, meter.person(last, what), 0);
        }
    }

    /** "Settings (first value; range)" */
    private static void settingsFirstLeastAndGreatest() {
        int[] first = {1, 10, 20};
        int[] least = {0, 1, 0};
        int[] greatest = {5, 50, 50};
        for (int i = 0; i < 3; i++) {
            int what = i;
            check.is("first", new CoverMeter().setting(what), first[what]);
            for (int value = least[what]; value <= greatest[what]; value++) {
                CoverMeter meter = new CoverMeter();
                check.is("the value before", meter.set(what, value), first[what]);
                check.is("the value set", meter.setting(what), value);
            }
            check.badArgument("setting " + what + " too small", CoverMeter::new, m -> m.set(what, least[what] - 1));
            check.badArgument("setting " + what + " too large", CoverMeter::new, m -> m.set(what, greatest[what] + 1));
        }
    }

    /** "Absences. There are at most 30, numbered from 0." */
    private static void absencesFrom0To29() {
        CoverMeter meter = Check.withRosters(Check.ALL_SHIFTS);
        for (int shift = 0; shift < 30; shift++) {
            check.is("the number", meter.absent(0, 41 - shift), shift);
        }
        for (int shift = 0; shift < 30; shift++) {
            check.is("the shift", meter.absence(shift, 1), 41 - shift);
        }
        check.badState("a 31st absence", Check::full, m -> m.absent(0, 41));
        check.noPlace("absence -1", Check::full, m -> m.absence(-1, 0));
        check.noPlace("absence 30", Check::full, m -> m.absence(30, 0));
    }

    /** "An absence is of a person in a shift of the roster of this person" */
    private static void absenceOnlyInTheRoster() {
        Supplier<CoverMeter> made = () -> Check.withRosters(Check.shifts(0, 20, 41), 0);
        for (int shift : new int[] {1, 19, 21, 40}) {
            check.badState("not in the roster: " + shift, made, m -> m.absent(0, shift));
        }
        check.badState("in another's roster", made, m -> m.absent(1, 20));
        CoverMeter meter = made.get();
        meter.roster(0, 20, false);
        check.badState("not in the roster any more", meter, () -> meter.absent(0, 20));
        meter.roster(0, 19, true);
        check.is("in the roster now", meter.absent(0, 19), 0);
    }

    /** "a person has at most one absence in a shift" */
    private static void oneAbsenceOfAPersonInAShift() {
        CoverMeter meter = Check.withRosters(Check.shifts(3), Check.shifts(3), 0);
        check.is("the first person's", meter.absent(0, 3), 0);
        check.is("another's in the same shift", meter.absent(1, 3), 1);
        check.badState("a second one, the first is open", meter, () -> meter.absent(0, 3));
        meter.cover(0);
        check.badState("a second one, the first is covered", meter, () -> meter.absent(0, 3));
        meter.giveUp(1);
        check.badState("a second one, the first is given up", meter, () -> meter.absent(1, 3));
    }

    /** "It is open, covered by another person, or given up. A covered one has points": no other has. */
    private static void absenceIsOpenCoveredOrGivenUp() {
        CoverMeter meter = absences(4);
        coverByBid(meter, 1, 3, 20);
        meter.cover(2);
        meter.giveUp(3);
        int[] status = {0, 1, 2, 3};
        int[] coverer = {CoverMeter.NONE, 3, 1, CoverMeter.NONE};
        int[] points = {0, 20, 10, 0};
        for (int absence = 0; absence < 4; absence++) {
            check.is("the status", meter.absence(absence, 2), status[absence]);
            check.is("who covers it", meter.absence(absence, 3), coverer[absence]);
            check.is("the points", meter.absence(absence, 4), points[absence]);
        }
    }

    /** "A person works in a shift if it is in the roster .. and .. no absence in it, or if the person covers .." */
    private static void workOfRosterAndCovers() {
        CoverMeter meter = Check.withRosters(Check.shifts(0, 20, 41), Check.shifts(10, 30));
        check.is("the roster", meter.work(0), Check.shifts(0, 20, 41));
        meter.absent(0, 0);
        meter.absent(0, 41);
        check.is("without the absences", meter.work(0), Check.shifts(20));
        meter.absent(0, 20);
        check.is("no work left", meter.work(0), 0);
        meter.coverAll();
        check.is("with the covers", meter.work(1), Check.shifts(0, 10, 20, 30, 41));
        meter.absent(1, 10);
        meter.cover(3);
        check.is("a cover alone", meter.work(0), Check.shifts(10));
    }

    /** "A person can cover an absence .. if it is an absence of another person" */
    private static void coverOnlyForAnother() {
        CoverMeter alone = Check.withRosters(Check.shifts(3));
        alone.absent(0, 3);
        check.is("the own", alone.why(0, 0), 1);
        check.badState("the own, and no other person", alone, () -> alone.cover(0));
        alone.addPerson(0);
        check.is("another's", alone.cover(0), 1);
    }

    /** "the person has no absence in its shift": open, covered or given up */
    private static void coverNotWithAnAbsenceThen() {
        CoverMeter meter = Check.withRosters(Check.shifts(3), Check.shifts(2, 3, 4), 0);
        meter.absent(0, 3);
        meter.absent(1, 2);
        meter.absent(1, 4);
        check.is("works then", meter.why(1, 0), 3);
        meter.absent(1, 3);
        check.is("an open absence then", meter.why(1, 0), 2);
        meter.cover(3);
        check.is("a covered absence then", meter.why(1, 0), 2);
        meter.undo();
        meter.giveUp(3);
        check.is("a given up absence then", meter.why(1, 0), 2);
        CoverMeter beside = Check.withRosters(Check.shifts(3), Check.shifts(2, 4));
        beside.absent(0, 3);
        beside.absent(1, 2);
        beside.absent(1, 4);
        check.is("absences beside it", beside.why(1, 0), 0);
    }

    /** "does not work in it, and does not work in any of the shifts that are at most rest before or behind it" */
    private static void restReachesJustSoFar() {
        for (int rest = 0; rest <= 5; rest++) {
            for (int far = 0; far <= 6; far++) {
                CoverMeter meter = Check.withRosters(Check.shifts(20), Check.shifts(20 - far), Check.shifts(20 + far));
                meter.set(0, rest);
                meter.absent(0, 20);
                String where = far + " from it, rest " + rest;
                check.is("before, " + where, meter.why(1, 0), far == 0 ? 3 : far <= rest ? 4 : 0);
                check.is("behind, " + where, meter.why(2, 0), far == 0 ? 3 : far <= rest ? 5 : 0);
                check.is("both, " + where, meter.absence(0, 6), far <= rest ? 0 : 0b110);
            }
        }
    }

    /** The rest at the ends of the shifts: it does not go round from the last to the first. */
    private static void restEndsWithTheShifts() {
        CoverMeter meter = Check.withRosters(Check.shifts(0, 41), Check.shifts(5), Check.shifts(6), Check.shifts(35),
                Check.shifts(36), Check.shifts(41), Check.shifts(0));
        meter.set(0, 5);
        meter.absent(0, 0);
        meter.absent(0, 41);
        int[] first = {1, 5, 0, 0, 0, 0, 3};
        int[] last = {1, 0, 0, 0, 4, 3, 0};
        for (int person = 0; person < 7; person++) {
            check.is("the first shift for " + person, meter.why(person, 0), first[person]);
            check.is("the last shift for " + person, meter.why(person, 1), last[person]);
        }
    }

    /** A cover is work, an absence is none, so only the cover asks for rest. */
    private static void restFromCoversNotFromAbsences() {
        CoverMeter meter = Check.withRosters(Check.shifts(10, 11, 12), 0, 0);
        meter.absent(0, 10);
        meter.absent(0, 11);
        meter.absent(0, 12);
        check.is("nothing near", meter.why(1, 0) + meter.why(1, 2), 0);
        meter.cover(1);
        check.is("near behind", meter.why(1, 0), 5);
        check.is("near before", meter.why(1, 2), 4);
        meter.handOver(1, 2);
        check.is("nothing near any more", meter.why(1, 0) + meter.why(1, 2), 0);
        CoverMeter away = Check.withRosters(Check.shifts(11), Check.shifts(10, 12));
        away.absent(0, 11);
        check.is("works before and behind", away.why(1, 0), 4);
        away.absent(1, 10);
        check.is("works behind", away.why(1, 0), 5);
        away.absent(1, 12);
        check.is("absent before and behind", away.why(1, 0), 0);
    }

    /** "A person can cover an absence, whether it is open or not" */
    private static void coverWhetherOpenOrNot() {
        CoverMeter meter = absences(2);
        check.is("open", meter.absence(0, 6), 0b1110);
        meter.cover(0);
        check.is("covered: the one who does works then", meter.absence(0, 6), 0b1100);
        check.is("the reason", meter.why(1, 0), 3);
        meter.giveUp(1);
        check.is("given up", meter.absence(1, 6), 0b1110);
    }

    /** "A person can bid for an open absence, 0 points to the greatest bid" */
    private static void bidsFrom0ToTheGreatest() {
        for (int greatest : new int[] {0, 1, 20, 50}) {
            Supplier<CoverMeter> made = () -> {
                CoverMeter meter = absences(2);
                meter.set(2, greatest);
                return meter;
            };
            CoverMeter meter = made.get();
            check.is("the least", meter.bid(1, 0, 0), 1);
            check.is("the least is a bid", meter.bidOf(1, 0), 0);
            check.is("the greatest", meter.bid(2, 0, greatest), 2);
            check.is("the greatest is a bid", meter.bidOf(2, 0), greatest);
            check.badArgument("too small", made, m -> m.bid(1, 0, -1));
            check.badArgument("too large", made, m -> m.bid(1, 0, greatest + 1));
        }
    }

    /** "another bid of the same person for it takes the place of the one before" */
    private static void aBidInThePlaceOfAnother() {
        CoverMeter meter = absences(2);
        meter.bid(1, 0, 10);
        meter.bid(2, 0, 10);
        meter.bid(1, 1, 10);
        for (int points : new int[] {0, 20, 20}) {
            check.is("the bids", meter.bid(1, 0, points), 2);
            check.is("the bid", meter.bidOf(1, 0), points);
        }
        check.is("another's bid", meter.bidOf(2, 0), 10);
        check.is("the bid for another", meter.bidOf(1, 1), 10);
        check.is("the last one counts", meter.cover(0), 2);
    }

    /** "(A bid stays as it is if the greatest bid is set lower later.)" */
    private static void aBidStaysWhenTheGreatestIsLowered() {
        Supplier<CoverMeter> made = () -> {
            CoverMeter meter = absences(2);
            meter.set(2, 50);
            meter.bid(1, 0, 50);
            meter.bid(1, 1, 50);
            meter.set(2, 0);
            return meter;
        };
        CoverMeter meter = made.get();
        check.is("the bid", meter.bidOf(1, 0), 50);
        check.is("the bids", meter.absence(0, 5), 1);
        check.is("by the bid", meter.cover(0), 1);
        check.is("a bid still", meter.absence(0, 2), 1);
        check.is("the points", meter.absence(0, 4), 50);
        check.is("taken back", meter.takeBack(1, 1), 50);
        check.badArgument("the same bid once more", made, m -> m.bid(1, 0, 50));
        check.badArgument("one over the new greatest", made, m -> m.bid(2, 0, 1));
    }

    /** "of the persons who have bid for it and can cover it, the one with the lowest bid covers it" */
    private static void lowestBid() {
        CoverMeter meter = absences(4);
        meter.set(2, 50);
        meter.bid(1, 0, 1);
        meter.bid(3, 0, 0);
        check.is("0 before 1", meter.cover(0), 3);
        check.is("a bid of 0 is a bid", meter.absence(0, 2), 1);
        meter.bid(1, 1, 50);
        meter.bid(2, 1, 49);
        check.is("49 before 50", meter.cover(1), 2);
        meter.bid(2, 2, 0);
        meter.bid(1, 2, 1);
        check.is("whatever the meters are", meter.cover(2), 2);
        meter.bid(3, 3, 50);
        check.is("a single bid, the greatest", meter.cover(3), 3);
        check.metersAre("at last", meter, -99, 0, 49, 50);
    }

    /** "of several, the one with the lowest meter" */
    private static void equalBidsLowestMeter() {
        CoverMeter meter = absences(5);
        coverByBid(meter, 0, 1, 1);
        meter.bid(1, 1, 5);
        meter.bid(2, 1, 5);
        check.is("one point less", meter.cover(1), 2);
        check.metersAre("then", meter, -6, 1, 5, 0);
        meter.bid(1, 2, 0);
        meter.bid(2, 2, 0);
        meter.bid(3, 2, 0);
        check.is("the lowest of three", meter.cover(2), 3);
        meter.roster(3, 40, true);
        meter.absent(3, 40);
        coverByBid(meter, 5, 2, 3);
        check.metersAre("below 0", meter, -6, 1, 8, -3);
        meter.bid(1, 3, 5);
        meter.bid(3, 3, 5);
        check.is("one below 0", meter.cover(3), 3);
        meter.bid(1, 4, 5);
        meter.bid(3, 4, 5);
        check.metersAre("two above 0", meter, -11, 1, 8, 2);
        check.is("one point less, the lower number", meter.cover(4), 1);
    }

    /** "of several, the one with the lowest number", with equal bids and meters */
    private static void equalBidsAndMetersLowestNumber() {
        CoverMeter meter = absences(3);
        for (int person = 3; person >= 1; person--) {
            meter.bid(person, 0, 0);
            meter.bid(person, 1, 20);
        }
        check.is("of all", meter.cover(0), 1);
        meter.takeBack(1, 1);
        check.is("of two", meter.cover(1), 2);
        CoverMeter first = Check.withRosters(0, Check.shifts(3), 0);
        first.absent(1, 3);
        first.bid(2, 0, 4);
        first.bid(0, 0, 4);
        check.is("number 0", first.cover(0), 0);
    }

    /** "of the persons who have bid for it and can cover it": the lowest bid may be of one who cannot */
    private static void biddersWhoCannotArePassedOver() {
        CoverMeter meter = absences(2);
        meter.roster(1, 1, true);
        meter.bid(1, 0, 0);
        meter.bid(3, 0, 20);
        check.is("the one who can", meter.cover(0), 3);
        check.is("by the bid", meter.absence(0, 2), 1);
        check.is("its points", meter.absence(0, 4), 20);
    }

    /** "If there is no such person, it is a compulsory turn": no bid, or none of one who can cover it */
    private static void turnIfNoBidderCan() {
        CoverMeter meter = absences(2);
        check.is("no bid", meter.cover(0), 1);
        check.is("by a turn", meter.absence(0, 2), 2);
        meter.roster(2, 7, true);
        meter.bid(2, 1, 0);
        check.is("no bid of one who can", meter.cover(1), 3);
        check.is("by a turn too", meter.absence(1, 2), 2);
        check.is("the points of a turn", meter.absence(1, 4), 10);
        check.is("the turns of the bidder", meter.person(2, 4), 0);
        check.is("the turns of the one who covers it", meter.person(3, 4), 1);
    }

    /** "of the persons who can cover it, the one with the fewest turns covers it" */
    private static void fewestTurns() {
        CoverMeter meter = absences(6);
        meter.set(1, 1);
        coverByBid(meter, 0, 2, 20);
        coverByBid(meter, 1, 3, 19);
        check.is("all without turns", meter.cover(2), 1);
        check.is("none before one, whatever the meters are", meter.cover(3), 3);
        check.is("none before one, the last without", meter.cover(4), 2);
        check.is("all with one turn", meter.cover(5), 1);
        check.metersAre("at last", meter, -43, 2, 21, 20);
        check.is("two turns", meter.person(1, 4), 2);
    }

    /** "of several, the one with the lowest meter", with equal turns */
    private static void equalTurnsLowestMeter() {
        CoverMeter meter = absences(3);
        coverByBid(meter, 0, 1, 2);
        coverByBid(meter, 1, 2, 1);
        meter.roster(3, 12, true);
        check.is("one point less", meter.cover(2), 2);
        CoverMeter lower = absences(3);
        coverByBid(lower, 0, 1, 5);
        coverByBid(lower, 1, 2, 6);
        lower.roster(3, 12, true);
        check.is("one point less, the lower number", lower.cover(2), 1);
        CoverMeter below = Check.withRosters(Check.shifts(3), Check.shifts(20), 0);
        below.absent(1, 20);
        coverByBid(below, 0, 2, 1);
        below.absent(0, 3);
        check.is("one below 0", below.cover(1), 1);
    }

    /** "of several, the one with the lowest number", with equal turns and meters */
    private static void equalTurnsAndMetersLowestNumber() {
        CoverMeter meter = absences(3);
        for (int person = 1; person <= 3; person++) {
            check.is("the next number", meter.cover(person - 1), person);
        }
        CoverMeter first = Check.withRosters(0, Check.shifts(3), 0);
        first.absent(1, 3);
        check.is("number 0", first.cover(0), 0);
    }

    /** "If nobody can cover it, it stays open." */
    private static void openIfNobodyCan() {
        CoverMeter meter = Check.withRosters(Check.shifts(3), Check.shifts(3), Check.shifts(4));
        meter.absent(0, 3);
        meter.bid(1, 0, 0);
        meter.bid(2, 0, 20);
        check.is("covered", meter.coverAll(), 0);
        check.is("open", meter.absence(0, 2), 0);
        check.is("its bids", meter.absence(0, 5), 2);
        check.metersAre("then", meter, 0, 0, 0);
    }

    /** "its points are added to the meter of the person who covers it, and taken from .. the person who is absent" */
    private static void pointsAddedAndTaken() {
        CoverMeter meter = absences(4);
        meter.set(2, 50);
        coverByBid(meter, 0, 1, 0);
        check.metersAre("after a bid of 0", meter, 0, 0, 0, 0);
        coverByBid(meter, 1, 1, 50);
        check.metersAre("after a bid of 50", meter, -50, 50, 0, 0);
        meter.set(1, 1);
        check.is("a turn of 1 point", meter.cover(2), 2);
        check.metersAre("after a turn of 1", meter, -51, 50, 1, 0);
        meter.set(1, 50);
        check.is("a turn of 50 points", meter.cover(3), 3);
        check.metersAre("after a turn of 50", meter, -101, 50, 1, 50);
        check.is("the points of the turn before", meter.absence(2, 4), 1);
    }

    /** "all bids for it are gone": of those who cannot cover it too, and none for another absence */
    private static void bidsGoneWithTheCover() {
        CoverMeter meter = absences(2);
        meter.roster(3, 1, true);
        for (int person = 1; person <= 3; person++) {
            meter.bid(person, 0, person);
            meter.bid(person, 1, person);
        }
        meter.cover(0);
        check.is("no bids", meter.absence(0, 5), 0);
        check.is("the bids for another", meter.absence(1, 5), 3);
        for (int person = 1; person <= 3; person++) {
            check.is("no bid of " + person, meter.bidOf(person, 0), CoverMeter.NONE);
            check.is("the bid for another of " + person, meter.bidOf(person, 1), person);
        }
    }

    /** "its points are taken from the meter of the person who covered it and added to that of the other one" */
    private static void pointsMoveWithTheCover() {
        CoverMeter meter = absences(3);
        coverByBid(meter, 0, 1, 0);
        meter.handOver(0, 2);
        check.metersAre("after 0 points", meter, 0, 0, 0, 0);
        meter.set(2, 50);
        coverByBid(meter, 1, 1, 50);
        meter.set(2, 0);
        meter.handOver(1, 3);
        check.metersAre("after 50 points", meter, -50, 0, 0, 50);
        meter.cover(2);
        meter.set(1, 50);
        meter.handOver(2, 3);
        check.metersAre("after the points of the turn then, not now", meter, -60, 0, 0, 60);
        check.is("the points stay with it", meter.absence(2, 4), 10);
    }

    /** "The turns of both stay as they are." */
    private static void turnsStayWithTheHandOver() {
        CoverMeter meter = absences(2);
        meter.cover(0);
        meter.handOver(0, 2);
        check.is("of the one before", meter.person(1, 4), 1);
        check.is("of the other", meter.person(2, 4), 0);
        check.is("the other's meter is higher, 3 comes next", meter.cover(1), 3);
    }
}
