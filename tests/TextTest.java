/** Promises 24 to 26: the text and its orders. */
public final class TextTest {
    private static final Check check = new Check("TextTest");

    public static void main(String[] args) {
        promise24Append();
        promise25ClearText();
        promise26EachOrder();
        promise26ZerosInFront();
        promise26StopsAtTheFirstThatThrows();
        promise26SyntaxOfAbsences();
        promise26SyntaxOfBids();
        promise26SyntaxOfTheRest();
        promise26SyntaxErrorChangesNothing();
        promise26OneSavedState();
        promise26FullText();
        check.end();
    }

    private static CoverMeter twoPersons() {
        CoverMeter meter = new CoverMeter();
        meter.addPerson(Check.ALL_SHIFTS);
        meter.addPerson(0);
        return meter;
    }

    private static void errorAt(String text, int position) {
        CoverMeter meter = twoPersons();
        check.is("'" + text + "'", Check.carryOut(meter, text), -10 - position);
    }

    private static void carriesOut(CoverMeter meter, String text, int orders) {
        check.is("'" + text + "'", Check.carryOut(meter, text), orders);
    }

    private static void promise24Append() {
        CoverMeter meter = new CoverMeter();
        for (int value : new int[] {-1, 128, 256 + 'z', Integer.MIN_VALUE, Integer.MAX_VALUE}) {
            check.badArgument("append " + value, meter, () -> meter.append(value));
        }
        check.is("append the lowest", meter.append(0), 1);
        check.is("append the greatest", meter.append(127), 2);
        for (int length = 3; length <= 100; length++) {
            check.is("append", meter.append('z'), length);
        }
        check.badState("append to a full text", meter, () -> meter.append('z'));
        check.badArgument("append a wrong byte to a full text", meter, () -> meter.append(128));
        check.badState("append saves nothing", meter, () -> meter.undo());
    }

    private static void promise25ClearText() {
        CoverMeter meter = new CoverMeter();
        check.is("clear an empty text", meter.clearText(), 0);
        Check.append(meter, "a0,");
        check.is("clear", meter.clearText(), 3);
        check.is("clear again", meter.clearText(), 0);
        check.is("the next byte", meter.append('z'), 1);
        meter.append(';');
        check.is("only the new text counts", meter.carryOut(), 1);
        check.is("the one saved state", meter.undo(), 0);
    }

    private static void promise26EachOrder() {
        CoverMeter meter = twoPersons();
        carriesOut(meter, "", 0);
        carriesOut(meter, "a0,41;a0,3;", 2);
        check.is("the shift of the first", meter.absence(0, 1), 41);
        check.is("the shift of the second", meter.absence(1, 1), 3);
        carriesOut(meter, "b1,1,20;", 1);
        check.is("the bid", meter.bidOf(1, 1), 20);
        carriesOut(meter, "c1;", 1);
        check.is("the cover", meter.absence(1, 3), 1);
        check.is("by the bid", meter.absence(1, 2), 1);
        carriesOut(meter, "z;", 1);
        check.is("all covered", meter.value(2), 0);
        carriesOut(meter, "z;z;", 2);
        carriesOut(meter, "a0,5;a0,6;z;a0,9;", 4);
        check.is("z covers as far as it can", meter.value(2), 2);
        check.is("the text stays", meter.carryOut(), 0);
        check.is("its length", meter.clearText(), 17);
    }

    private static void promise26ZerosInFront() {
        CoverMeter meter = twoPersons();
        carriesOut(meter, "a0,00;a0,09;b1,00,05;b1,01,0;c00;c01;", 6);
        check.is("the first shift", meter.absence(0, 1), 0);
        check.is("the second shift", meter.absence(1, 1), 9);
        check.is("the first bid", meter.absence(0, 4), 5);
        check.is("the second bid", meter.absence(1, 4), 0);
    }

    private static void promise26StopsAtTheFirstThatThrows() {
        CoverMeter meter = twoPersons();
        carriesOut(meter, "a0,1;a0,1;a0,5;", 1);
        check.is("the absences", meter.value(1), 1);
        carriesOut(meter, "a2,1;", 0);
        carriesOut(meter, "a7,1;", 0);
        carriesOut(meter, "a1,1;", 0);
        carriesOut(meter, "b2,0,1;z;", 0);
        carriesOut(meter, "b1,1,1;z;", 0);
        carriesOut(meter, "b1,29,1;z;", 0);
        carriesOut(meter, "b0,0,1;z;", 0);
        carriesOut(meter, "b1,0,21;z;", 0);
        carriesOut(meter, "c1;z;", 0);
        check.is("still open", meter.value(2), 1);
        check.is("no bids", meter.value(8), 0);
        carriesOut(meter, "b1,0,20;c0;c0;z;", 2);
        carriesOut(meter, "b1,0,20;", 0);
        meter.roster(1, 4, true);
        carriesOut(meter, "a0,5;c1;z;", 1);
        check.is("nobody could", meter.absence(1, 2), 0);
    }

    private static void promise26SyntaxOfAbsences() {
        errorAt("a", 1);
        errorAt("a8", 1);
        errorAt("a,", 1);
        errorAt("a/", 1);
        errorAt("a:", 1);
        errorAt("a-1,3;", 1);
        errorAt("a0", 2);
        errorAt("a00,1;", 2);
        errorAt("a0;", 2);
        errorAt("a0,", 3);
        errorAt("a0,;", 3);
        errorAt("a0,/", 3);
        errorAt("a0,:", 3);
        errorAt("a0, 1;", 3);
        errorAt("a0,4", 4);
        errorAt("a0,4,", 4);
        errorAt("a0,4:", 4);
        errorAt("a0,41", 5);
        errorAt("a0,42", 3);
        errorAt("a0,42;", 3);
        errorAt("a0,42x", 3);
        errorAt("a0,42,", 3);
        errorAt("a0,99", 3);
        errorAt("a0,420", 5);
        errorAt("a0,041;", 5);
        errorAt("a0,42\0", 3);
        errorAt("a0,1; ", 5);
        errorAt("a0,1;;", 5);
        errorAt("a0,1;a0,50;", 8);
    }

    private static void promise26SyntaxOfBids() {
        errorAt("b", 1);
        errorAt("b8,", 1);
        errorAt("b1;", 2);
        errorAt("b1,;", 3);
        errorAt("b1,1;", 4);
        errorAt("b1,29", 5);
        errorAt("b1,30", 3);
        errorAt("b1,30,1;", 3);
        errorAt("b1,300", 5);
        errorAt("b1,029,1;", 5);
        errorAt("b1,1,", 5);
        errorAt("b1,1,;", 5);
        errorAt("b1,1,5", 6);
        errorAt("b1,1,5,", 6);
        errorAt("b1,1,50", 7);
        errorAt("b1,1,51", 5);
        errorAt("b1,1,51;", 5);
        errorAt("b1,1,050;", 7);
        errorAt("b1,30,51;", 3);
    }

    private static void promise26SyntaxOfTheRest() {
        errorAt("c", 1);
        errorAt("c;", 1);
        errorAt("c3", 2);
        errorAt("c29", 3);
        errorAt("c30", 1);
        errorAt("c30;", 1);
        errorAt("c300", 3);
        errorAt("c1,", 2);
        errorAt("z", 1);
        errorAt("z0;", 1);
        errorAt("zz;", 1);
        errorAt("z;x", 2);
        errorAt(";", 0);
        errorAt(" ", 0);
        errorAt("A0,1;", 0);
        errorAt("d1;", 0);
        errorAt("0", 0);
        errorAt("\0", 0);
        errorAt("\177", 0);
    }

    private static void promise26SyntaxErrorChangesNothing() {
        CoverMeter meter = twoPersons();
        Check.append(meter, "a0,1;z;c30;");
        long before = meter.digest();
        check.is("an error behind good orders", meter.carryOut(), -18);
        check.is("nothing is carried out, nothing saved", meter.digest(), before);
    }

    private static void promise26OneSavedState() {
        CoverMeter meter = twoPersons();
        long before = meter.value(1);
        carriesOut(meter, "a0,1;a0,9;z;", 3);
        check.is("undo of all orders", meter.undo(), 2);
        check.is("the absences after undo", meter.value(1), before);
        check.is("the text after undo", meter.clearText(), 12);
        carriesOut(meter, "c0;", 0);
        check.is("a saved state if no order is carried out", meter.undo(), 2);
        carriesOut(meter, "", 0);
        check.is("a saved state if there is no order", meter.undo(), 2);
    }

    private static void promise26FullText() {
        CoverMeter meter = twoPersons();
        for (int i = 0; i < 50; i++) {
            Check.append(meter, "z;");
        }
        check.is("fifty orders", meter.carryOut(), 50);
        meter.clearText();
        for (int shift = 10; shift < 26; shift++) {
            Check.append(meter, "a0," + shift + ";");
        }
        check.is("a byte behind the orders", meter.append('z'), 97);
        check.is("a text that ends too early", meter.carryOut(), -10 - 97);
        Check.append(meter, ";z;");
        check.is("a hundred bytes", meter.carryOut(), 18);
        meter.clearText();
        for (int i = 0; i < 49; i++) {
            Check.append(meter, "z;");
        }
        Check.append(meter, "c1");
        check.is("a full text that ends too early", meter.carryOut(), -10 - 100);
    }
}
