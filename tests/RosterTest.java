/** Promises 1 to 11: a new object, and the calls that change the roster and its covers. */
public final class RosterTest {
    private static final Check check = new Check("RosterTest");

    public static void main(String[] args) {
        promise1NewObject();
        promise2Set();
        promise2SetRefused();
        promise3AddPerson();
        promise4Roster();
        promise4RosterRefused();
        promise4RosterAndAbsences();
        promise5Absent();
        promise5AbsentRefused();
        promise6Bid();
        promise6BidRefused();
        promise7TakeBack();
        promise8CoverByBid();
        promise8CoverByTurn();
        promise8CoverRefused();
        promise9CoverAll();
        promise10HandOver();
        promise10HandOverRefused();
        promise11GiveUp();
        check.end();
    }

    private static void promise1NewObject() {
        CoverMeter meter = new CoverMeter();
        for (int what = 0; what < 11; what++) {
            check.is("new value " + what, meter.value(what), what == 6 || what == 7 ? CoverMeter.NONE : 0);
        }
        check.is("first rest", meter.setting(0), 1);
        check.is("first points of a turn", meter.setting(1), 10);
        check.is("first greatest bid", meter.setting(2), 20);
        check.is("new text", meter.clearText(), 0);
        check.badState("undo of nothing", meter, () -> meter.undo());
        CoverMeter other = new CoverMeter();
        other.addPerson(1);
        check.is("another object's persons", meter.value(0), 0);
    }

    private static void promise2Set() {
        int[] first = {1, 10, 20};
        int[] lowest = {0, 1, 0};
        int[] greatest = {5, 50, 50};
        for (int what = 0; what < 3; what++) {
            int setting = what;
            CoverMeter meter = new CoverMeter();
            check.is("set to the lowest", meter.set(what, lowest[what]), first[what]);
            check.is("set to the greatest", meter.set(what, greatest[what]), lowest[what]);
            check.is("the setting", meter.setting(what), greatest[what]);
            check.is("set to the same", meter.set(what, greatest[what]), greatest[what]);
            check.badArgument("set too low", meter, () -> meter.set(setting, lowest[setting] - 1));
            check.badArgument("set too high", meter, () -> meter.set(setting, greatest[setting] + 1));
            check.is("undo of the same", meter.undo(), 2);
            check.is("undo of the greatest", meter.undo(), 1);
            check.is("the setting after undo", meter.setting(what), lowest[what]);
            check.is("undo of the lowest", meter.undo(), 0);
            check.is("the setting at last", meter.setting(what), first[what]);
        }
    }

    private static void promise2SetRefused() {
        CoverMeter meter = new CoverMeter();
        for (int what : new int[] {-1, 3, Integer.MIN_VALUE, Integer.MAX_VALUE}) {
            check.badArgument("set " + what, meter, () -> meter.set(what, 1));
        }
        check.badArgument("set far too low", meter, () -> meter.set(0, Integer.MIN_VALUE));
        check.badArgument("set far too high", meter, () -> meter.set(2, Integer.MAX_VALUE));
        check.badState("undo of refused ones", meter, () -> meter.undo());
    }

    private static void promise3AddPerson() {
        CoverMeter meter = new CoverMeter();
        for (long roster : new long[] {-1, Check.ALL_SHIFTS + 1, Long.MIN_VALUE, Long.MAX_VALUE}) {
            check.badArgument("addPerson " + roster, meter, () -> meter.addPerson(roster));
        }
        long[] rosters = {0, Check.ALL_SHIFTS, 1, 1L << 41, 5, 6, 7, 8};
        for (int person = 0; person < 8; person++) {
            check.is("addPerson", meter.addPerson(rosters[person]), person);
            check.is("the persons", meter.value(0), person + 1);
            check.is("the work", meter.work(person), rosters[person]);
        }
        check.is("a new meter", meter.person(7, 3), 0);
        check.is("new turns", meter.person(7, 4), 0);
        check.badState("a ninth person", meter, () -> meter.addPerson(0));
        check.badArgument("a ninth person, and out of range", meter, () -> meter.addPerson(-1));
        check.is("undo", meter.undo(), 3);
        check.is("the persons after undo", meter.value(0), 7);
        check.is("the eighth again", meter.addPerson(9), 7);
        check.is("its work", meter.work(7), 9);
    }

    private static void promise4Roster() {
        CoverMeter meter = Check.withRosters(0, Check.shifts(3, 40));
        check.is("shift 0 in", meter.roster(0, 0, true), 1);
        check.is("shift 41 in", meter.roster(0, 41, true), 2);
        check.is("shift 33 in", meter.roster(0, 33, true), 3);
        check.is("the work", meter.work(0), Check.shifts(0, 33, 41));
        check.is("shift 0 out", meter.roster(0, 0, false), 2);
        check.is("the work without 0", meter.work(0), Check.shifts(33, 41));
        check.is("the other's shift 40 out", meter.roster(1, 40, false), 1);
        check.is("the other's work", meter.work(1), Check.shifts(3));
        check.is("undo", meter.undo(), 3);
        check.is("the other's work after undo", meter.work(1), Check.shifts(3, 40));
    }

    private static void promise4RosterRefused() {
        CoverMeter meter = Check.withRosters(0, Check.shifts(3));
        for (int person : new int[] {-1, 2, Integer.MIN_VALUE, Integer.MAX_VALUE}) {
            check.noPlace("roster of " + person, meter, () -> meter.roster(person, 0, true));
            check.noPlace("roster of " + person + ", wrong shift", meter, () -> meter.roster(person, 42, true));
        }
        for (int shift : new int[] {-1, 42, 64, 67, Integer.MIN_VALUE, Integer.MAX_VALUE}) {
            check.badArgument("roster, shift " + shift, meter, () -> meter.roster(1, shift, false));
            check.badArgument("roster, shift " + shift, meter, () -> meter.roster(1, shift, true));
        }
        check.badState("in already", meter, () -> meter.roster(1, 3, true));
        check.badState("out already", meter, () -> meter.roster(0, 3, false));
    }

    private static void promise4RosterAndAbsences() {
        CoverMeter meter = Check.withRosters(Check.shifts(3, 6), 0, 0);
        meter.absent(0, 3);
        meter.absent(0, 6);
        check.badState("an open absence out", meter, () -> meter.roster(0, 3, false));
        check.badState("an open absence in", meter, () -> meter.roster(0, 3, true));
        meter.cover(0);
        check.badState("a covered absence out", meter, () -> meter.roster(0, 3, false));
        check.badState("a cover in", meter, () -> meter.roster(1, 3, true));
        check.badState("a cover out", meter, () -> meter.roster(1, 3, false));
        check.is("beside a cover in", meter.roster(1, 4, true), 1);
        meter.handOver(0, 2);
        check.is("a cover handed over in", meter.roster(1, 3, true), 2);
        meter.giveUp(1);
        check.badState("a given up absence out", meter, () -> meter.roster(0, 6, false));
    }

    private static void promise5Absent() {
        CoverMeter meter = Check.withRosters(Check.ALL_SHIFTS, Check.shifts(0, 41));
        check.is("absent", meter.absent(1, 41), 0);
        check.is("absent again", meter.absent(1, 0), 1);
        check.is("the work left", meter.work(1), 0);
        check.is("its roster stays", meter.person(1, 0), 2);
        for (int shift = 0; shift < 28; shift++) {
            check.is("absent", meter.absent(0, shift + 14), shift + 2);
        }
        check.badState("a 31st absence", meter, () -> meter.absent(0, 0));
        check.badArgument("a 31st absence, wrong shift", meter, () -> meter.absent(0, 42));
        check.is("the person", meter.absence(29, 0), 0);
        check.is("the shift", meter.absence(29, 1), 41);
        check.is("open", meter.absence(29, 2), 0);
        check.is("undo", meter.undo(), 3);
        check.is("the absences after undo", meter.value(1), 29);
        check.is("absent after undo", meter.absent(0, 0), 29);
        check.is("its shift", meter.absence(29, 1), 0);
    }

    private static void promise5AbsentRefused() {
        CoverMeter meter = Check.withRosters(Check.shifts(3), 0);
        for (int person : new int[] {-1, 2, Integer.MIN_VALUE, Integer.MAX_VALUE}) {
            check.noPlace("absent " + person, meter, () -> meter.absent(person, 3));
            check.noPlace("absent " + person + ", wrong shift", meter, () -> meter.absent(person, -1));
        }
        for (int shift : new int[] {-1, 42, 67, Integer.MIN_VALUE, Integer.MAX_VALUE}) {
            check.badArgument("absent in " + shift, meter, () -> meter.absent(0, shift));
        }
        check.badState("not in the roster", meter, () -> meter.absent(0, 4));
        meter.absent(0, 3);
        check.badState("absent twice", meter, () -> meter.absent(0, 3));
        meter.cover(0);
        check.badState("absent where it is covered", meter, () -> meter.absent(0, 3));
        check.badState("absent from a cover", meter, () -> meter.absent(1, 3));
        meter.undo();
        meter.giveUp(0);
        check.badState("absent where it is given up", meter, () -> meter.absent(0, 3));
    }

    private static void promise6Bid() {
        CoverMeter meter = Check.withRosters(Check.shifts(3, 9), Check.shifts(3), 0);
        meter.absent(0, 3);
        meter.absent(0, 9);
        check.is("the first bid, of one who works then", meter.bid(1, 0, 20), 1);
        check.is("the second bid", meter.bid(2, 0, 0), 2);
        check.is("the points", meter.bidOf(2, 0), 0);
        check.is("a bid in the place of another", meter.bid(2, 0, 5), 2);
        check.is("the new points", meter.bidOf(2, 0), 5);
        check.is("a bid for another absence", meter.bid(2, 1, 6), 1);
        check.is("the bid before", meter.bidOf(2, 0), 5);
        check.is("undo", meter.undo(), 3);
        check.is("no bid after undo", meter.bidOf(2, 1), CoverMeter.NONE);
        meter.set(2, 4);
        check.is("a bid over the greatest stays", meter.bidOf(1, 0), 20);
        check.is("a bid at the greatest", meter.bid(1, 1, 4), 1);
        check.is("it covers with its own points still", meter.cover(0), 2);
        check.is("its points", meter.absence(0, 4), 5);
    }

    private static void promise6BidRefused() {
        CoverMeter meter = Check.withRosters(Check.shifts(3, 9, 12), 0);
        meter.absent(0, 3);
        meter.absent(0, 9);
        meter.absent(0, 12);
        for (int none : Check.NOWHERE) {
            check.noPlace("bid of " + none, meter, () -> meter.bid(none, 0, 0));
            check.noPlace("bid for " + none, meter, () -> meter.bid(1, none, 0));
            check.noPlace("bid for " + none + ", wrong points", meter, () -> meter.bid(1, none, -1));
        }
        check.noPlace("bid of the next person", meter, () -> meter.bid(2, 0, 0));
        check.noPlace("bid for the next absence", meter, () -> meter.bid(1, 3, 0));
        for (int points : new int[] {-1, 21, Integer.MIN_VALUE, Integer.MAX_VALUE}) {
            check.badArgument("bid " + points, meter, () -> meter.bid(1, 0, points));
            check.badArgument("own bid " + points, meter, () -> meter.bid(0, 0, points));
        }
        check.badState("bid for the own one", meter, () -> meter.bid(0, 0, 5));
        meter.cover(0);
        meter.bid(1, 1, 5);
        meter.cover(1);
        meter.giveUp(2);
        for (int absence = 0; absence < 3; absence++) {
            int closed = absence;
            check.badState("bid for what is not open", meter, () -> meter.bid(1, closed, 5));
        }
        meter.set(2, 0);
        check.badArgument("bid over the greatest of 0", meter, () -> meter.bid(1, 0, 1));
    }

    private static void promise7TakeBack() {
        CoverMeter meter = Check.withRosters(Check.shifts(3, 9), 0, 0);
        meter.absent(0, 3);
        meter.absent(0, 9);
        meter.bid(1, 0, 7);
        meter.bid(2, 0, 0);
        meter.bid(1, 1, 9);
        for (int none : Check.NOWHERE) {
            check.noPlace("takeBack of " + none, meter, () -> meter.takeBack(none, 0));
            check.noPlace("takeBack for " + none, meter, () -> meter.takeBack(1, none));
        }
        check.noPlace("takeBack of the next person", meter, () -> meter.takeBack(3, 0));
        check.noPlace("takeBack for the next absence", meter, () -> meter.takeBack(1, 2));
        check.badState("no bid for this", meter, () -> meter.takeBack(2, 1));
        check.badState("no bid of the absent one", meter, () -> meter.takeBack(0, 0));
        check.is("takeBack of 0 points", meter.takeBack(2, 0), 0);
        check.badState("takeBack twice", meter, () -> meter.takeBack(2, 0));
        check.is("takeBack", meter.takeBack(1, 0), 7);
        check.is("the bids left", meter.absence(0, 5), 0);
        check.is("the other bid", meter.bidOf(1, 1), 9);
        check.is("undo", meter.undo(), 3);
        check.is("the bid after undo", meter.bidOf(1, 0), 7);
        meter.cover(0);
        check.badState("takeBack from a covered one", meter, () -> meter.takeBack(1, 0));
        meter.giveUp(1);
        check.badState("takeBack from one given up", meter, () -> meter.takeBack(1, 1));
    }

    private static void promise8CoverByBid() {
        CoverMeter meter = Check.withRosters(Check.shifts(0, 6, 12, 18), Check.shifts(18), 0, 0, 0);
        meter.absent(0, 0);
        meter.absent(0, 6);
        meter.absent(0, 12);
        meter.absent(0, 18);
        meter.bid(3, 0, 4);
        meter.bid(2, 0, 3);
        meter.bid(4, 0, 3);
        check.is("the lowest bid, the lowest number", meter.cover(0), 2);
        check.is("by a bid", meter.absence(0, 2), 1);
        check.is("its points", meter.absence(0, 4), 3);
        check.is("its bids are gone", meter.absence(0, 5), 0);
        check.is("a bid is gone", meter.bidOf(3, 0), CoverMeter.NONE);
        check.is("no turn", meter.person(2, 4), 0);
        check.metersAre("after a bid of 3", meter, -3, 0, 3, 0, 0);
        meter.bid(2, 1, 5);
        meter.bid(3, 1, 5);
        meter.bid(4, 1, 5);
        check.is("the lowest meter, the lowest number", meter.cover(1), 3);
        meter.bid(3, 2, 0);
        meter.bid(4, 2, 1);
        check.is("the lowest bid before the lowest meter", meter.cover(2), 3);
        check.is("by a bid of 0", meter.absence(2, 2), 1);
        check.is("the points of a bid of 0", meter.absence(2, 4), 0);
        meter.bid(1, 3, 0);
        meter.bid(2, 3, 20);
        check.is("who cannot cover is passed over", meter.cover(3), 2);
        check.metersAre("at last", meter, -28, 0, 23, 5, 0);
        check.is("undo", meter.undo(), 3);
        check.is("open after undo", meter.absence(3, 2), 0);
        check.is("the bids after undo", meter.absence(3, 5), 2);
        check.metersAre("after undo", meter, -8, 0, 3, 5, 0);
    }

    private static void promise8CoverByTurn() {
        CoverMeter meter = Check.withRosters(Check.shifts(0, 6, 12, 18, 24), 0, 0, 0);
        for (int shift = 0; shift <= 24; shift += 6) {
            meter.absent(0, shift);
        }
        meter.roster(3, 0, true);
        meter.bid(3, 0, 0);
        check.is("the lowest number, if no bidder can", meter.cover(0), 1);
        check.is("by a turn", meter.absence(0, 2), 2);
        check.is("the points of a turn", meter.absence(0, 4), 10);
        check.is("its bids are gone", meter.absence(0, 5), 0);
        check.is("one turn", meter.person(1, 4), 1);
        check.metersAre("after a turn", meter, -10, 10, 0, 0);
        meter.bid(2, 1, 5);
        check.is("a bid of 5", meter.cover(1), 2);
        check.is("the fewest turns, the lowest meter", meter.cover(2), 3);
        check.is("the fewest turns before the lowest meter", meter.cover(3), 2);
        meter.set(1, 50);
        meter.bid(1, 4, 1);
        meter.takeBack(1, 4);
        check.is("equal turns, the lowest meter of several, the lowest number", meter.cover(4), 1);
        check.is("the points as they are set now", meter.absence(4, 4), 50);
        check.is("the points before", meter.absence(3, 4), 10);
        check.is("two turns", meter.person(1, 4), 2);
        check.metersAre("at last", meter, -85, 60, 15, 10);
    }

    private static void promise8CoverRefused() {
        CoverMeter meter = Check.withRosters(Check.shifts(3, 9), Check.shifts(4));
        meter.absent(0, 3);
        meter.absent(0, 9);
        for (int none : Check.NOWHERE) {
            check.noPlace("cover " + none, meter, () -> meter.cover(none));
        }
        check.noPlace("cover the next", meter, () -> meter.cover(2));
        check.badState("nobody can cover it", meter, () -> meter.cover(0));
        meter.bid(1, 0, 1);
        check.badState("no bidder can cover it", meter, () -> meter.cover(0));
        meter.cover(1);
        check.badState("covered already", meter, () -> meter.cover(1));
        meter.giveUp(0);
        meter.set(0, 0);
        check.badState("given up", meter, () -> meter.cover(0));
    }

    private static void promise9CoverAll() {
        CoverMeter meter = Check.withRosters(Check.shifts(4, 3, 20), Check.shifts(3));
        check.is("coverAll of none", meter.coverAll(), 0);
        meter.absent(0, 4);
        meter.absent(0, 20);
        meter.absent(1, 3);
        meter.addPerson(0);
        meter.giveUp(1);
        check.is("coverAll", meter.coverAll(), 2);
        check.is("the first", meter.absence(0, 3), 1);
        check.is("given up still", meter.absence(1, 2), 3);
        // person 0 works in shift 3, and 2 has no work: only 2 is left
        check.is("the last", meter.absence(2, 3), 2);
        check.is("coverAll again", meter.coverAll(), 0);
        check.is("undo of the one that did nothing", meter.undo(), 3);
        check.is("covered still", meter.value(2), 0);
        meter.undo();
        check.is("open again", meter.value(2), 2);

        CoverMeter near = Check.withRosters(Check.shifts(7, 6, 30), Check.shifts(0));
        near.absent(0, 7);
        near.absent(0, 6);
        near.absent(0, 30);
        check.is("coverAll as far as somebody can", near.coverAll(), 2);
        check.is("the first in ascending order", near.absence(0, 3), 1);
        check.is("too near to it", near.absence(1, 2), 0);
        check.is("behind the one that stays open", near.absence(2, 3), 1);
    }

    private static void promise10HandOver() {
        CoverMeter meter = Check.withRosters(Check.shifts(3, 9), 0, 0);
        meter.absent(0, 3);
        meter.absent(0, 9);
        meter.cover(0);
        meter.bid(2, 1, 6);
        meter.cover(1);
        check.is("handOver of a turn", meter.handOver(0, 2), 1);
        check.is("who covers it then", meter.absence(0, 3), 2);
        check.is("still by a turn", meter.absence(0, 2), 2);
        check.is("its points", meter.absence(0, 4), 10);
        check.is("the turns of the one before", meter.person(1, 4), 1);
        check.is("the turns of the other", meter.person(2, 4), 0);
        check.is("the work of the one before", meter.work(1), 0);
        check.is("the work of the other", meter.work(2), Check.shifts(3, 9));
        check.metersAre("after handOver", meter, -16, 0, 16);
        check.is("handOver of a bid", meter.handOver(1, 1), 2);
        check.is("still by a bid", meter.absence(1, 2), 1);
        check.metersAre("after both", meter, -16, 6, 10);
        check.is("the covers handed over", meter.value(10), 2);
        check.is("back again", meter.handOver(0, 1), 2);
        check.is("counted again", meter.value(10), 3);
        check.is("undo", meter.undo(), 3);
        check.is("the covers handed over after undo", meter.value(10), 2);
        check.metersAre("after undo", meter, -16, 6, 10);
    }

    private static void promise10HandOverRefused() {
        CoverMeter meter = Check.withRosters(Check.shifts(3, 9, 20), Check.shifts(4, 20), 0, 0);
        meter.absent(0, 3);
        meter.absent(0, 9);
        meter.absent(0, 20);
        meter.absent(1, 20);
        check.badState("handOver of an open one", meter, () -> meter.handOver(0, 3));
        meter.cover(0);
        meter.giveUp(1);
        meter.cover(2);
        check.badState("handOver of one given up", meter, () -> meter.handOver(1, 3));
        for (int none : Check.NOWHERE) {
            check.noPlace("handOver of " + none, meter, () -> meter.handOver(none, 3));
            check.noPlace("handOver to " + none, meter, () -> meter.handOver(0, none));
            check.noPlace("handOver of an open one to " + none, meter, () -> meter.handOver(3, none));
        }
        check.noPlace("handOver to the next person", meter, () -> meter.handOver(0, 4));
        check.noPlace("handOver of the next absence", meter, () -> meter.handOver(4, 3));
        check.badState("handOver to the one who covers it", meter, () -> meter.handOver(0, 2));
        check.badState("handOver to the absent one", meter, () -> meter.handOver(0, 0));
        check.badState("handOver to one who works too near", meter, () -> meter.handOver(0, 1));
        check.badState("handOver to one absent then", meter, () -> meter.handOver(2, 1));
        check.is("who covers it still", meter.absence(0, 3), 2);
    }

    private static void promise11GiveUp() {
        CoverMeter meter = Check.withRosters(Check.shifts(3, 9), 0, Check.shifts(3));
        meter.absent(0, 3);
        meter.absent(0, 9);
        meter.bid(1, 0, 7);
        meter.bid(2, 0, 8);
        for (int none : Check.NOWHERE) {
            check.noPlace("giveUp of " + none, meter, () -> meter.giveUp(none));
        }
        check.noPlace("giveUp of the next", meter, () -> meter.giveUp(2));
        check.is("giveUp with bids", meter.giveUp(0), 2);
        check.is("given up", meter.absence(0, 2), 3);
        check.is("nobody covers it", meter.absence(0, 3), CoverMeter.NONE);
        check.is("no bids", meter.absence(0, 5), 0);
        check.is("no bid", meter.bidOf(1, 0), CoverMeter.NONE);
        check.is("absent still", meter.work(0), 0);
        check.badState("giveUp twice", meter, () -> meter.giveUp(0));
        check.is("undo", meter.undo(), 3);
        check.is("the bids after undo", meter.absence(0, 5), 2);
        check.is("giveUp without bids", meter.giveUp(1), 0);
        meter.cover(0);
        check.badState("giveUp of a covered one", meter, () -> meter.giveUp(0));
    }
}
