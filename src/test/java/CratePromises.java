/** Promises 1 and 8 to 24: a new object, crates and their stored readings. */
final class CratePromises {
    private static final String NEST = "crate a 1 10;crate b 2 20 in a;crate c 3 30 in b;crate d 4 40 in a;"
        + "crate abcdef 50 500;buyer zed 9999 50 100;noise 0;aging 2;";

    private CratePromises() {
    }

    static void promise1() {
        CrateScale x = new CrateScale();
        Check.isTrue("the buffer is empty", !x.truncateInput(1));
        Check.same("the output is empty", x.outputByte(0), CrateScale.NONE);
        Check.element("nothing to undo", () -> x.undo());
        Check.element("nothing is saved", () -> x.restoreState());
        Check.same("apple", Check.tree(x, 0), "apple:50[pear:27[fig:10]]");
        Check.same("plum", Check.tree(x, 2), "plum:5");
        CrateScale y = Check.yard("crate apple 3 20;crate pear 2 15 in apple;crate plum 5 0;crate fig 1 9 in pear;"
            + "buyer amy 200 3 50;buyer ben 60 1 80;noise 4;seed 7;aging 10;readings 2;trust 30;");
        Check.same("the same as from the text", Check.view(x), Check.view(y));
        Check.same("settings", x.amplitude() + " " + x.aging() + " " + x.requiredReadings() + " " + x.requiredTrust(), "4 10 2 30");
        Check.same("seed 7", x.weigh(0), 51);
    }

    static void promise8() {
        CrateScale x = new CrateScale();
        Check.same("at first", x.crateCount(), 4);
        Check.weighOften(x, 0, 2);
        x.sell(0, 1);
        Check.same("after a sale", x.crateCount(), 4);
        Check.same("after a load", Check.yard(NEST).crateCount(), 5);
    }

    static void promise9() {
        Check.same("at first", new CrateScale().buyerCount(), 2);
        Check.same("one", Check.yard(NEST).buyerCount(), 1);
        Check.same("none", Check.yard("crate a 1 0;").buyerCount(), 0);
    }

    static void promise10() {
        CrateScale x = Check.yard(NEST);
        for (int i = 0; i < 6; i++) {
            Check.same("letter " + i, x.crateNameByte(4, i), 'a' + i);
        }
        Check.same("letter 6", x.crateNameByte(4, 6), CrateScale.NONE);
        Check.same("letter -1", x.crateNameByte(4, -1), CrateScale.NONE);
        Check.same("the greatest letter", x.crateNameByte(4, Integer.MAX_VALUE), CrateScale.NONE);
        Check.same("letter 1 of a", x.crateNameByte(0, 1), CrateScale.NONE);
        Check.range("crate 5", () -> x.crateNameByte(5, 0));
        Check.range("crate -1", () -> x.crateNameByte(-1, 0));
        Check.same("z", Check.yard("crate zzzzzz 1 0;").crateNameByte(0, 5), (int) 'z');
    }

    static void promise11() {
        CrateScale x = Check.yard(NEST);
        Check.same("z", x.buyerNameByte(0, 0), (int) 'z');
        Check.same("d", x.buyerNameByte(0, 2), (int) 'd');
        Check.same("letter 3", x.buyerNameByte(0, 3), CrateScale.NONE);
        Check.same("letter -1", x.buyerNameByte(0, -1), CrateScale.NONE);
        Check.range("buyer 1", () -> x.buyerNameByte(1, 0));
        Check.range("buyer -1", () -> x.buyerNameByte(-1, 0));
    }

    static void promise12() {
        CrateScale x = Check.yard(NEST);
        Check.same("c", x.tareOf(2), 3);
        Check.same("abcdef", x.tareOf(4), 50);
        x.addGoods(2, 5);
        Check.same("goods are no tare", x.tareOf(2), 3);
        Check.range("crate 5", () -> x.tareOf(5));
        Check.range("crate -1", () -> x.tareOf(-1));
    }

    static void promise13() {
        CrateScale x = Check.yard(NEST);
        Check.same("a", x.goodsOf(0), 10);
        Check.same("abcdef", x.goodsOf(4), 500);
        x.addGoods(1, 7);
        Check.same("b after an addition", x.goodsOf(1), 27);
        Check.same("a keeps its own", x.goodsOf(0), 10);
        Check.range("crate 16", () -> x.goodsOf(16));
        Check.range("crate -1", () -> x.goodsOf(-1));
    }

    static void promise14() {
        CrateScale x = Check.yard(NEST);
        Check.same("a", x.grossOf(0), 110);
        Check.same("b", x.grossOf(1), 55);
        Check.same("abcdef", x.grossOf(4), 550);
        x.moveInto(4, 2);
        Check.same("a after a move", x.grossOf(0), 660);
        Check.same("c after a move", x.grossOf(2), 583);
        x.removeGoods(4, 500);
        Check.same("a after a removal", x.grossOf(0), 160);
        Check.range("crate 5", () -> x.grossOf(5));
        Check.range("crate -1", () -> x.grossOf(-1));
    }

    static void promise15() {
        CrateScale x = Check.yard(NEST);
        Check.same("a", x.parentOf(0), CrateScale.NONE);
        Check.same("c", x.parentOf(2), 1);
        x.moveInto(2, 3);
        Check.same("c after a move", x.parentOf(2), 3);
        x.weigh(0);
        x.weigh(0);
        x.sell(0, 0);
        Check.same("c after it left the yard", x.parentOf(2), 3);
        Check.range("crate 5", () -> x.parentOf(5));
        Check.range("crate -1", () -> x.parentOf(-1));
    }

    static void promise16() {
        CrateScale x = Check.yard(NEST);
        Check.same("a", x.depthOf(0), 0);
        Check.same("c", x.depthOf(2), 2);
        x.moveInto(0, 4);
        Check.same("c after its outermost moved", x.depthOf(2), 3);
        Check.range("crate 5", () -> x.depthOf(5));
        Check.range("crate -1", () -> x.depthOf(-1));
    }

    static void promise17() {
        CrateScale x = Check.yard(NEST);
        Check.same("a", x.childCount(0), 2);
        Check.same("b", x.childCount(1), 1);
        Check.same("c", x.childCount(2), 0);
        x.moveInto(4, 0);
        Check.same("a with one more", x.childCount(0), 3);
        x.takeOut(1);
        Check.same("a with one less", x.childCount(0), 2);
        Check.range("crate 5", () -> x.childCount(5));
        Check.range("crate -1", () -> x.childCount(-1));
    }

    static void promise18() {
        CrateScale x = Check.yard(NEST);
        Check.same("first of a", x.childOf(0, 0), 1);
        Check.same("second of a", x.childOf(0, 1), 3);
        Check.same("third of a", x.childOf(0, 2), CrateScale.NONE);
        Check.same("child -1", x.childOf(0, -1), CrateScale.NONE);
        Check.same("the greatest position", x.childOf(0, Integer.MAX_VALUE), CrateScale.NONE);
        x.moveInto(1, 0);
        Check.same("b moved behind d", x.childOf(0, 0), 3);
        Check.same("d before b", x.childOf(0, 1), 1);
        x.takeOut(3);
        x.moveInto(3, 0);
        Check.same("d moved behind b", x.childOf(0, 1), 3);
        x.undo();
        x.undo();
        Check.same("undo brings the order back", x.childOf(0, 0), 3);
        Check.range("crate 5", () -> x.childOf(5, 0));
        Check.range("crate -1", () -> x.childOf(-1, 0));
    }

    static void promise19() {
        CrateScale x = Check.yard(NEST);
        Check.isTrue("c at first", x.isInYard(2));
        x.weigh(0);
        x.weigh(0);
        x.sell(0, 0);
        for (int i = 0; i < 4; i++) {
            Check.isTrue("crate " + i + " left", !x.isInYard(i));
        }
        Check.isTrue("abcdef stays", x.isInYard(4));
        x.undo();
        Check.isTrue("c is back", x.isInYard(2));
        Check.range("crate 5", () -> x.isInYard(5));
        Check.range("crate -1", () -> x.isInYard(-1));
    }

    static void promise20() {
        CrateScale x = Check.yard(NEST);
        Check.same("at first", x.readingCount(0), 0);
        Check.weighOften(x, 0, 3);
        x.weigh(1);
        Check.weighOften(x, 3, 2);
        Check.same("three of a", x.readingCount(0), 3);
        x.addGoods(3, 1);
        Check.same("goods discard the crate's own", x.readingCount(3), 0);
        Check.same("and its ancestor's", x.readingCount(0), 0);
        Check.same("but not its neighbour's", x.readingCount(1), 1);
        x.weigh(0);
        x.weigh(2);
        x.weigh(4);
        x.moveInto(1, 4);
        Check.same("a move discards a former ancestor's", x.readingCount(0), 0);
        Check.same("and a new ancestor's", x.readingCount(4), 0);
        Check.same("not its own", x.readingCount(1), 1);
        Check.same("nor those inside it", x.readingCount(2), 1);
        x.weigh(4);
        x.takeOut(1);
        Check.same("taking out discards the former ancestor's", x.readingCount(4), 0);
        Check.same("not its own", x.readingCount(1), 1);
        x.weigh(1);
        x.sell(1, 0);
        Check.same("a sold crate keeps its readings", x.readingCount(1), 2);
        Check.range("crate 5", () -> x.readingCount(5));
        Check.range("crate -1", () -> x.readingCount(-1));
    }

    static void promise21() {
        CrateScale x = Check.yard("crate a 2 0;noise 50;seed 9999;aging 1;");
        Check.element("no reading", () -> x.lastReading(0));
        x.weigh(0);
        Check.same("a reading below 0", x.lastReading(0), 2 - 46);
        x.weigh(0);
        Check.same("the second of the pair, with a sag of 1", x.lastReading(0), 2 + 46 + 1);
        x.addGoods(0, 1);
        Check.element("discarded", () -> x.lastReading(0));
        Check.range("crate 1", () -> x.lastReading(1));
        Check.range("crate -1", () -> x.lastReading(-1));
    }

    static void promise22() {
        CrateScale x = Check.yard("crate a 2 0;noise 50;seed 9999;aging 1;");
        Check.element("no reading", () -> x.meanReading(0));
        x.weigh(0);
        Check.same("-44 of 1", x.meanReading(0), -44);
        x.weigh(0);
        Check.same("5 of 2, a half goes up", x.meanReading(0), 3);
        x.weigh(0);
        Check.same("5 + 2 + 13 + 2 = 22 of 3", x.meanReading(0), 7);
        CrateScale y = Check.yard("crate a 1 0;noise 50;seed 373;");
        Check.weighOften(y, 0, 3);
        Check.same("-47 of 3", y.meanReading(0), -16);
        CrateScale z = Check.yard("crate a 1 0;noise 50;seed 164;");
        Check.weighOften(z, 0, 3);
        Check.same("-46 of 3", z.meanReading(0), -15);
        CrateScale many = Check.yard("crate a 50 500;noise 0;aging 1;");
        for (int i = 0; i < 20; i++) {
            Check.run(many, "weigh a 50;".repeat(30));
        }
        Check.same("30000 readings with sags of 0 to 29999", many.meanReading(0), 550 + 15000);
        Check.range("crate 1", () -> x.meanReading(1));
        Check.range("crate -1", () -> x.meanReading(-1));
    }

    static void promise23() {
        CrateScale x = Check.yard("crate a 2 0;crate b 1 0;noise 50;seed 9999;aging 1;");
        Check.element("no reading", () -> x.meanError(0));
        x.weigh(0);
        Check.same("below", x.meanError(0), -46);
        x.weigh(0);
        Check.same("a half above", x.meanError(0), 1);
        Check.weighOften(x, 0, 2);
        Check.same("a mean sag of 1.5", x.meanError(0), 2);
        Check.element("another crate", () -> x.meanError(1));
        Check.range("crate 2", () -> x.meanError(2));
        Check.range("crate -1", () -> x.meanError(-1));
    }

    static void promise24() {
        CrateScale x = Check.yard("crate a 2 0;noise 50;seed 9999;aging 1;");
        Check.element("no reading", () -> x.exactMean(0));
        x.weigh(0);
        Check.same("one", x.exactMean(0), -44.0);
        x.weigh(0);
        Check.same("two", x.exactMean(0), 2.5);
        x.weigh(0);
        Check.same("three", x.exactMean(0), 22.0 / 3.0);
        Check.range("crate 1", () -> x.exactMean(1));
        Check.range("crate -1", () -> x.exactMean(-1));
    }
}
