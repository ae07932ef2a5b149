import java.util.function.Supplier;

/** Promises 24 to 26 and the terms of the text: each sentence that names a boundary case has a test of its own. */
public final class TextEdgesTest {
    private static final String DIGITS = "0123456789";
    private static final Check check = new Check("TextEdgesTest");

    public static void main(String[] args) {
        promise24ValueOutOfRange();
        promise24HundredBytes();
        promise24TheNewLength();
        promise25TheLengthThatItHad();
        promise26NoOrders();
        promise26MostOrders();
        promise26PersonDigits();
        promise26ShiftsFrom0To41();
        promise26AbsencesFrom0To29();
        promise26BidsFrom0To50();
        promise26TheFirstByteThatCannotStand();
        promise26ADigitTooMany();
        promise26TheTextEndsTooEarly();
        promise26OutOfRangeFoundByAnyByteBehind();
        promise26OutOfRangeFoundByTheEnd();
        promise26TheFirstErrorOfSeveral();
        promise26TheLeastAndTheGreatestErrorPosition();
        promise26AnErrorChangesNothing();
        promise26AbsencesThatThrow();
        promise26BidsThatThrow();
        promise26CoversThatThrow();
        promise26UpToTheFirstThatThrows();
        promise26CoverAllNeverThrows();
        promise26TheTextStays();
        promise26OneSavedState();
        check.end();
    }

    /** Eight persons who work all the time, a bid may be 50, four saved states. */
    private static CoverMeter eight() {
        long all = Check.ALL_SHIFTS;
        CoverMeter meter = Check.withRosters(all, all, all, all, all, all, all, all);
        meter.set(2, 50);
        return meter;
    }

    /** Thirty absences of person 0, the others have no work, a bid may be 50. */
    private static CoverMeter thirty() {
        CoverMeter meter = Check.full();
        meter.clearText();
        meter.set(2, 50);
        return meter;
    }

    private static void answers(Supplier<CoverMeter> made, String text, int due) {
        check.is("'" + text + "'", Check.carryOut(made.get(), text), due);
    }

    private static void errorAt(String text, int position) {
        answers(TextEdgesTest::thirty, text, -10 - position);
    }

    /** The number with one digit, if that is enough, and with two. */
    private static String[] written(int number) {
        String two = "" + number / 10 + number % 10;
        return number < 10 ? new String[] {two, "" + number} : new String[] {two};
    }

    /** Promise 24: "`value`: the byte, 0 to 127" */
    private static void promise24ValueOutOfRange() {
        for (int value : new int[] {-1, 128, 255, 256, Integer.MIN_VALUE, Integer.MAX_VALUE}) {
            check.badArgument("append " + value, CoverMeter::new, m -> m.append(value));
            check.badArgument("append " + value + " to a full text", Check::full, m -> m.append(value));
        }
        for (int value = 0; value <= 127; value++) {
            check.is("append " + value, new CoverMeter().append(value), 1);
        }
    }

    /** Promise 24: "Throws `IllegalStateException` if the text has 100 bytes" */
    private static void promise24HundredBytes() {
        for (int value : new int[] {0, ';', 127}) {
            check.badState("append " + value + " to a full text", Check::full, m -> m.append(value));
        }
        CoverMeter meter = Check.full();
        meter.clearText();
        check.is("append to a text that was full", meter.append('z'), 1);
    }

    /** "Returns the new length of the text.": 1 to 100; no state is saved */
    private static void promise24TheNewLength() {
        CoverMeter meter = new CoverMeter();
        for (int length = 1; length <= 100; length++) {
            check.is("the new length", meter.append(length), length);
        }
        check.badState("nothing saved", meter, () -> meter.undo());
    }

    /** "Returns the length that it had.": 0 to 100; no state is saved */
    private static void promise25TheLengthThatItHad() {
        for (int length = 0; length <= 100; length++) {
            CoverMeter meter = new CoverMeter();
            for (int i = 0; i < length; i++) {
                meter.append(0);
            }
            check.is("the length", meter.clearText(), length);
            check.is("empty now", meter.clearText(), 0);
            check.badState("nothing saved", meter, () -> meter.undo());
            check.is("no order left", meter.carryOut(), 0);
        }
    }

    /** "there may be no orders" */
    private static void promise26NoOrders() {
        answers(CoverMeter::new, "", 0);
        answers(TextEdgesTest::thirty, "", 0);
        CoverMeter meter = Check.full();
        meter.clearText();
        check.is("an empty text that was full", meter.carryOut(), 0);
    }

    /** The most orders that a text can have, and a text whose last byte ends the last order. */
    private static void promise26MostOrders() {
        check.is("fifty", Check.full().carryOut(), 50);
        StringBuilder text = new StringBuilder();
        for (int i = 10; i < 26; i++) {
            text.append("a0,").append(i).append(';');
        }
        answers(TextEdgesTest::eight, text + "a7,9", -10 - 100);
        answers(TextEdgesTest::eight, text + "z;z;", 18);
        answers(TextEdgesTest::eight, text + "c15;", 16);
    }

    /** "a person digit 0 to 7" */
    private static void promise26PersonDigits() {
        for (int person = 0; person < 8; person++) {
            CoverMeter meter = eight();
            check.is("absent", Check.carryOut(meter, "a" + person + ",0;"), 1);
            check.is("the person", meter.absence(0, 0), person);
        }
        for (int person = 1; person < 8; person++) {
            CoverMeter meter = thirty();
            check.is("bid", Check.carryOut(meter, "b" + person + ",0,0;"), 1);
            check.is("the bid", meter.bidOf(person, 0), 0);
        }
        for (String order : new String[] {"a8,0;", "a9,0;", "b8,0,0;", "b9,0,0;", "a8", "b9"}) {
            errorAt(order, 1);
        }
        errorAt("a00,0;", 2);
        errorAt("b01,0,0;", 2);
    }

    /** "a shift of one or two digits, 0 to 41"; "Numbers can have zeros in front." */
    private static void promise26ShiftsFrom0To41() {
        for (int shift = 0; shift <= 99; shift++) {
            for (String number : written(shift)) {
                CoverMeter meter = eight();
                check.is("absent in " + number, Check.carryOut(meter, "a7," + number + ";"), shift <= 41 ? 1 : -13);
                check.is("the absences", meter.value(1), shift <= 41 ? 1 : 0);
                if (shift <= 41) {
                    check.is("the shift", meter.absence(0, 1), shift);
                }
            }
        }
    }

    /** "an absence of one or two digits, 0 to 29", in both orders that have one */
    private static void promise26AbsencesFrom0To29() {
        for (int absence = 0; absence <= 99; absence++) {
            for (String number : written(absence)) {
                CoverMeter bids = thirty();
                int due = absence <= 29 ? 1 : -13;
                check.is("a bid for " + number, Check.carryOut(bids, "b1," + number + ",7;"), due);
                CoverMeter covers = thirty();
                due = absence <= 29 ? 1 : -11;
                check.is("cover of " + number, Check.carryOut(covers, "c" + number + ";"), due);
                if (absence <= 29) {
                    check.is("the bid", bids.bidOf(1, absence), 7);
                    check.is("the cover", covers.absence(absence, 3), 1);
                }
            }
        }
    }

    /** "a bid of one or two digits, 0 to 50" */
    private static void promise26BidsFrom0To50() {
        for (int points = 0; points <= 99; points++) {
            for (String number : written(points)) {
                CoverMeter meter = thirty();
                check.is("a bid of " + number, Check.carryOut(meter, "b1,2," + number + ";"), points <= 50 ? 1 : -15);
                check.is("the bid", meter.bidOf(1, 2), points <= 50 ? points : CoverMeter.NONE);
            }
        }
    }

    /** "the index of the first byte that cannot stand where it stands": each byte at each place of each order */
    private static void promise26TheFirstByteThatCannotStand() {
        String person = "01234567";
        noOtherByte("a7,41;", "abcz", person, ",", DIGITS, DIGITS + ";", ";");
        noOtherByte("b7,29,50;", "abcz", person, ",", DIGITS, DIGITS + ",", ",", DIGITS, DIGITS + ";", ";");
        noOtherByte("c29;", "abcz", DIGITS, DIGITS + ";", ";");
        noOtherByte("z;", "abcz", ";");
    }

    private static void noOtherByte(String order, String... allowed) {
        for (int at = 0; at < allowed.length; at++) {
            String before = order.substring(0, at);
            for (char sign = 0; sign <= 127; sign++) {
                if (allowed[at].indexOf(sign) < 0) {
                    errorAt(before + sign, at);
                    errorAt(before + sign + order.substring(at), at);
                    errorAt("z;" + before + sign + order.substring(at + 1), 2 + at);
                }
            }
        }
    }

    /** "(a digit too many, too)": it is the third one, whether the first two are in range or not */
    private static void promise26ADigitTooMany() {
        for (String two : new String[] {"00", "01", "29", "30", "41", "42", "50", "51", "99"}) {
            for (int i = 0; i < 10; i++) {
                char digit = DIGITS.charAt(i);
                errorAt("a0," + two + digit, 5);
                errorAt("a0," + two + digit + ";", 5);
                errorAt("b1," + two + digit + ",0;", 5);
                errorAt("b1,0," + two + digit + ";", 7);
                errorAt("c" + two + digit + ";", 3);
                errorAt("c" + two + digit, 3);
            }
        }
    }

    /** "or the length of the text if the text ends too early" */
    private static void promise26TheTextEndsTooEarly() {
        for (String order : new String[] {"a7,41;", "a0,0;", "b7,29,50;", "b1,0,0;", "c29;", "c0;", "z;"}) {
            for (int length = 1; length < order.length(); length++) {
                errorAt(order.substring(0, length), length);
                errorAt("z;" + order.substring(0, length), length + 2);
            }
        }
    }

    /** "the index of its first digit, found when a byte that is no digit, whichever it is, .. follows it" */
    private static void promise26OutOfRangeFoundByAnyByteBehind() {
        for (char sign = 0; sign <= 127; sign++) {
            if (DIGITS.indexOf(sign) < 0) {
                errorAt("a0,42" + sign, 3);
                errorAt("b1,30" + sign, 3);
                errorAt("b1,29,51" + sign, 6);
                errorAt("b1,0,51" + sign, 5);
                errorAt("c30" + sign, 1);
                errorAt("z;c99" + sign + ";", 3);
            }
        }
    }

    /** "or the end of the text, follows it" */
    private static void promise26OutOfRangeFoundByTheEnd() {
        errorAt("a0,42", 3);
        errorAt("a0,99", 3);
        errorAt("b1,30", 3);
        errorAt("b1,9,51", 5);
        errorAt("b1,29,99", 6);
        errorAt("c30", 1);
        errorAt("z;c99", 3);
        // A number that can still grow is looked at as it is: it is in its range.
        errorAt("a0,4", 4);
        errorAt("b1,3", 4);
        errorAt("b1,0,6", 6);
        errorAt("c3", 2);
    }

    /** "the first byte": what is wrong behind it does not count, what would throw before it neither */
    private static void promise26TheFirstErrorOfSeveral() {
        errorAt("a8,42;", 1);
        errorAt("a0,42;a8,0;", 3);
        errorAt("b1,30,51;", 3);
        errorAt("b1,30,051;", 3);
        errorAt("b1;30,51;", 2);
        errorAt("c0;x;c30;", 3);
        errorAt("a1,0;c0;c0;x", 11);
    }

    /** "-10 minus the syntax error position": 0 to 100 */
    private static void promise26TheLeastAndTheGreatestErrorPosition() {
        answers(CoverMeter::new, "x", -10);
        answers(CoverMeter::new, ";", -10);
        StringBuilder orders = new StringBuilder();
        for (int i = 0; i < 49; i++) {
            orders.append("z;");
        }
        answers(CoverMeter::new, orders + "x", -10 - 98);
        answers(CoverMeter::new, orders + "z", -10 - 99);
        answers(CoverMeter::new, orders + "zz", -10 - 99);
        answers(CoverMeter::new, orders + "a0", -10 - 100);
        answers(CoverMeter::new, orders + "c9", -10 - 100);
    }

    /** "if there is a syntax error (then nothing changes)": no order, no saved state, none dropped */
    private static void promise26AnErrorChangesNothing() {
        for (String text : new String[] {"c0;c1;x", "z;z", "a0,41;c30;", "b1,0,0;b1,1,51"}) {
            CoverMeter meter = thirty();
            Check.append(meter, text);
            long before = meter.digest();
            check.holds("an error", meter.carryOut() <= -10);
            check.is("the digest after '" + text + "'", meter.digest(), before);
            CoverMeter other = thirty();
            Check.append(other, text);
            for (int left = 3; left >= 0; left--) {
                check.is("the saved states", meter.undo(), left);
                other.undo();
                check.is("the saved state", meter.digest(), other.digest());
            }
        }
    }

    /** The order throws: none is carried out, neither it nor the one behind it, and a state is saved. */
    private static void stopsAt(Supplier<CoverMeter> made, String order) {
        CoverMeter meter = made.get();
        check.is("'" + order + "'", Check.carryOut(meter, order + "z;"), 0);
        CoverMeter other = made.get();
        check.is("no orders", Check.carryOut(other, ""), 0);
        meter.clearText();
        check.is("the digest after '" + order + "'", meter.digest(), other.digest());
    }

    /** Promise 26: "up to the first one that would throw an exception": all that `absent` throws */
    private static void promise26AbsencesThatThrow() {
        Supplier<CoverMeter> made = () -> {
            CoverMeter meter = Check.withRosters(Check.shifts(0, 6, 12, 18), 0);
            meter.absent(0, 0);
            meter.absent(0, 6);
            meter.absent(0, 12);
            meter.cover(0);
            meter.giveUp(1);
            return meter;
        };
        stopsAt(made, "a2,18;");
        stopsAt(made, "a7,18;");
        stopsAt(made, "a1,18;");
        stopsAt(made, "a0,17;");
        stopsAt(made, "a0,41;");
        stopsAt(made, "a0,0;");
        stopsAt(made, "a0,6;");
        stopsAt(made, "a0,12;");
        stopsAt(made, "a1,0;");
        stopsAt(TextEdgesTest::thirty, "a0,30;");
        check.is("the order that does not throw", Check.carryOut(made.get(), "a0,18;z;"), 2);
        CoverMeter last = thirty();
        last.undo();
        last.undo();
        check.is("the thirtieth absence, and one more", Check.carryOut(last, "a0,41;a0,40;"), 1);
        check.is("thirty absences", last.value(1), 30);
    }

    /** All that `bid` throws. */
    private static void promise26BidsThatThrow() {
        Supplier<CoverMeter> made = () -> {
            CoverMeter meter = Check.withRosters(Check.shifts(0, 6, 12, 18), 0, 0);
            for (int shift = 0; shift <= 18; shift += 6) {
                meter.absent(0, shift);
            }
            meter.bid(1, 1, 5);
            meter.cover(0);
            meter.cover(1);
            meter.giveUp(2);
            return meter;
        };
        stopsAt(made, "b3,3,0;");
        stopsAt(made, "b7,3,0;");
        stopsAt(made, "b1,4,0;");
        stopsAt(made, "b1,29,0;");
        stopsAt(made, "b1,3,21;");
        stopsAt(made, "b1,3,50;");
        stopsAt(made, "b1,0,0;");
        stopsAt(made, "b1,1,0;");
        stopsAt(made, "b1,2,0;");
        stopsAt(made, "b0,3,0;");
        check.is("the greatest bid", Check.carryOut(made.get(), "b1,3,20;z;"), 2);
        Supplier<CoverMeter> noPoints = () -> {
            CoverMeter meter = made.get();
            meter.set(2, 0);
            return meter;
        };
        stopsAt(noPoints, "b1,3,1;");
        check.is("a bid of 0", Check.carryOut(noPoints.get(), "b1,3,0;b1,3,00;"), 2);
    }

    /** All that `cover` throws. */
    private static void promise26CoversThatThrow() {
        Supplier<CoverMeter> made = () -> {
            CoverMeter meter = Check.withRosters(Check.shifts(0, 6, 12, 18), Check.shifts(19));
            for (int shift = 0; shift <= 18; shift += 6) {
                meter.absent(0, shift);
            }
            meter.bid(1, 1, 5);
            meter.bid(1, 3, 0);
            meter.cover(0);
            meter.cover(1);
            meter.giveUp(2);
            return meter;
        };
        stopsAt(made, "c4;");
        stopsAt(made, "c29;");
        stopsAt(made, "c0;");
        stopsAt(made, "c1;");
        stopsAt(made, "c2;");
        stopsAt(made, "c3;");
        CoverMeter meter = made.get();
        meter.roster(1, 19, false);
        check.is("the one that can be covered", Check.carryOut(meter, "c3;c3;"), 1);
    }

    /** "Returns the number of orders that are carried out": 0, some, all; those before the first that throws stand */
    private static void promise26UpToTheFirstThatThrows() {
        for (int good = 0; good <= 5; good++) {
            CoverMeter meter = eight();
            StringBuilder text = new StringBuilder();
            for (int shift = 0; shift < 5; shift++) {
                text.append(shift == good ? "a0,41;a0,41;" : "").append("a0,").append(shift).append(';');
            }
            check.is("'" + text + "'", Check.carryOut(meter, text.toString()), good == 5 ? 5 : good + 1);
            check.is("the absences", meter.value(1), good == 5 ? 5 : good + 1);
            check.is("the open ones", meter.value(2), good == 5 ? 5 : good + 1);
        }
    }

    /** "\"z\", to cover all open absences in ascending order, as far as they can be" */
    private static void promise26CoverAllNeverThrows() {
        answers(CoverMeter::new, "z;", 1);
        answers(() -> Check.withRosters(1, 0), "z;z;", 2);
        CoverMeter meter = thirty();
        check.is("with one between", Check.carryOut(meter, "z;c0;z;"), 1);
        check.is("all thirty", meter.value(4), 30);
        CoverMeter nobody = Check.withRosters(Check.ALL_SHIFTS);
        check.is("nobody can", Check.carryOut(nobody, "a0,3;z;a0,4;z;"), 4);
        check.is("open still", nobody.value(2), 2);
    }

    /** "The text stays as it is.": with all, some, no orders carried out, or an error */
    private static void promise26TheTextStays() {
        for (String text : new String[] {"", "z;z;", "a0,0;a0,0;z;", "c9;z;", "z;z"}) {
            CoverMeter meter = eight();
            Check.carryOut(meter, text);
            check.is("the length after '" + text + "'", meter.clearText(), text.length());
        }
        CoverMeter meter = eight();
        check.is("all", Check.carryOut(meter, "a0,0;a0,1;"), 2);
        check.is("the first throws the second time", meter.carryOut(), 0);
        meter.undo();
        meter.undo();
        check.is("again after undo", meter.carryOut(), 2);
        Check.append(meter, "z;");
        meter.undo();
        check.is("with one more", meter.carryOut(), 3);
    }

    /** "one saved state, also if no order is carried out" */
    private static void promise26OneSavedState() {
        String[] texts = {"", "c0;", "a0,0;", "a0,0;a0,1;a0,2;a0,3;a0,4;z;"};
        for (String text : texts) {
            CoverMeter meter = Check.withRosters(Check.ALL_SHIFTS);
            Check.append(meter, text);
            long before = meter.digest();
            meter.carryOut();
            check.is("undo of '" + text + "'", meter.undo(), 1);
            check.is("the digest then", meter.digest(), before);
        }
        CoverMeter meter = new CoverMeter();
        for (int saved = 1; saved <= 6; saved++) {
            meter.carryOut();
        }
        check.is("four of six", meter.undo(), 3);
    }
}
