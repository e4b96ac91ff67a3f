/** Promises 43 to 50: totals, the invariants and the average trust. */
final class TotalPromises {
    private TotalPromises() {
    }

    static void promise43() {
        CrateScale x = new CrateScale();
        Check.same("at first", x.totalReadings(), 0);
        Check.weighOften(x, 0, 3);
        x.weigh(3);
        x.addGoods(3, 1);
        Check.same("discarded ones count", x.totalReadings(), 4);
        x.predictMean(0, 100);
        Check.same("predicted ones do not", x.totalReadings(), 4);
        Check.run(x, "weigh plum 50;weigh fig 3;");
        Check.same("those of a script count", x.totalReadings(), 57);
        x.undo();
        Check.same("undone", x.totalReadings(), 4);
        Check.load(x, "crate a 1 0;");
        Check.same("after a load", x.totalReadings(), 0);
    }

    static void promise44() {
        CrateScale x = new CrateScale();
        Check.same("at first", x.totalDiscarded(), 0);
        Check.weighOften(x, 0, 3);
        Check.weighOften(x, 1, 2);
        x.weigh(3);
        x.weigh(2);
        x.addGoods(1, 1);
        Check.same("pear and apple", x.totalDiscarded(), 5);
        x.weigh(1);
        x.moveInto(3, 1);
        Check.same("into the same crate: pear, once", x.totalDiscarded(), 6);
        x.weigh(0);
        x.moveInto(3, 2);
        Check.same("apple and plum", x.totalDiscarded(), 8);
        x.weigh(2);
        x.takeOut(3);
        Check.same("plum", x.totalDiscarded(), 9);
        x.removeGoods(3, 1);
        Check.same("fig's first one, which lasted till now", x.totalDiscarded(), 10);
        x.undo();
        Check.same("undone", x.totalDiscarded(), 9);
        Check.load(x, "crate a 1 0;");
        Check.same("after a load", x.totalDiscarded(), 0);
    }

    static void promise45() {
        CrateScale x = new CrateScale();
        Check.same("at first", x.springsReplaced(), 0);
        x.replaceSpring();
        x.replaceSpring();
        Check.run(x, "spring;");
        Check.same("three", x.springsReplaced(), 3);
        x.undo();
        Check.same("undone", x.springsReplaced(), 2);
        Check.load(x, "crate a 1 0;");
        Check.same("after a load", x.springsReplaced(), 0);
    }

    /** Two sales: a price of 55 with a refund of 5, and one of 3 without. */
    private static CrateScale withSales() {
        CrateScale x = Check.yard("crate a 10 40;crate b 1 0;buyer p 500 4 50;noise 0;aging 1;readings 1;");
        Check.weighOften(x, 0, 11);
        x.sell(0, 0);
        x.setAging(5);
        x.weigh(1);
        x.sell(1, 0);
        return x;
    }

    static void promise46() {
        CrateScale x = withSales();
        Check.same("two", x.salesCount(), 2);
        x.undo();
        Check.same("one", x.salesCount(), 1);
        Check.same("none", new CrateScale().salesCount(), 0);
        Check.load(x, "crate a 1 0;");
        Check.same("after a load", x.salesCount(), 0);
    }

    static void promise47() {
        CrateScale x = withSales();
        Check.same("before refunds", x.totalPrices(), 55 + 3);
        x.undo();
        Check.same("undone", x.totalPrices(), 55);
        Check.same("none", new CrateScale().totalPrices(), 0);
        Check.load(x, "crate a 1 0;");
        Check.same("after a load", x.totalPrices(), 0);
    }

    static void promise48() {
        CrateScale x = withSales();
        Check.same("5", x.totalRefunds(), 5);
        Check.same("money", x.moneyOf(0), 500 - 55 + 5 - 3);
        Check.same("none", new CrateScale().totalRefunds(), 0);
        CrateScale low = Check.yard("crate a 1 0;buyer p 9 0 96;noise 50;seed 9999;readings 1;");
        low.weigh(0);
        low.sell(0, 0);
        Check.same("no refund below the weight", low.totalRefunds(), 0);
        Check.same("nor money", low.moneyOf(0), 9);
        Check.load(x, "crate a 1 0;");
        Check.same("after a load", x.totalRefunds(), 0);
    }

    static void promise49() {
        CrateScale x = withSales();
        Check.isTrue("after sales", x.isConsistent());
        Check.isTrue("at first", new CrateScale().isConsistent());
        CrateScale y = new CrateScale();
        y.weigh(0);
        y.setAmplitude(50);
        Check.isTrue("with an open pair", y.isConsistent());
        y.weigh(0);
        y.weigh(1);
        y.moveInto(0, 2);
        Check.isTrue("after a move", y.isConsistent());
        Check.weighOften(y, 2, 3);
        y.sell(2, 0);
        Check.isTrue("after a sale with crates inside", y.isConsistent());
        y.undo();
        y.saveState();
        y.takeOut(1);
        y.restoreState();
        Check.isTrue("after undo and restore", y.isConsistent());
        CrateScale z = Check.yard("crate a 1 0;crate b 1 0 in a;crate c 1 0 in b;crate d 1 0 in c;crate e 1 0 in d;"
            + "crate f 1 0 in e;noise 50;aging 1;buyer p 9 9 9;");
        Check.isTrue("as deep as can be", z.isConsistent());
        Check.weighOften(z, 0, 5);
        z.addGoods(5, 7);
        Check.isTrue("sags are discarded with their readings", z.isConsistent());
        Check.weighOften(z, 0, 5);
        Check.isTrue("with sags", z.isConsistent());
        z.saveState();
        z.takeOut(5);
        z.undo();
        Check.isTrue("undo brings the sags back", z.isConsistent());
        z.restoreState();
        Check.isTrue("restoring, too", z.isConsistent());
    }

    static void promise50() {
        CrateScale x = new CrateScale();
        Check.same("65", x.averageTrust(), 65f);
        Check.same("no buyers", Check.yard("crate a 1 0;").averageTrust(), 0f);
        CrateScale y = Check.yard("crate a 1 0;buyer p 1 1 1;buyer q 1 1 0;buyer r 1 1 99;");
        Check.same("100 of 3", y.averageTrust(), 100f / 3f);
        Check.weighOften(x, 0, 2);
        x.sell(0, 1);
        Check.same("after a sale", x.averageTrust(), 67.5f);
    }
}
