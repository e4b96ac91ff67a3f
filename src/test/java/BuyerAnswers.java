/** What buyers and totals answer: section 3 of the terms and promises 35 to 50, each buyer asked for itself. */
final class BuyerAnswers {
    private BuyerAnswers() {
    }

    /** No noise, no sag; a, klmno and zyxwvu are weighed thrice, m twice; n, with o inside, is sold to vwxy for 319. */
    private static CrateScale oneSold() {
        CrateScale x = FullYard.made();
        Check.run(x, "noise 0;aging 100;weigh a 3;weigh klmno 3;weigh m 2;weigh n 3;weigh zyxwvu 3;sell n to vwxy;");
        return x;
    }

    @Sentence(in = "Terms 3", says = "The deviation is the absolute difference between the mean reading and the gross weight.")
    static void deviationsBelowAndAboveTheWeight() {
        CrateScale low = Check.yard("crate a 50 200;buyer p 999 10 90;noise 50;seed 9999;readings 1;");
        low.weigh(0);
        Check.same("a mean of 46 less", low.meanError(0), -46);
        Check.same("is 36 beyond the tolerance", low.trustAfterSale(0, 0), 90 - 36);
        CrateScale high = Check.yard("crate a 50 200;buyer p 999 10 90;noise 50;seed 7;readings 1;");
        high.weigh(0);
        Check.same("a mean of 44 more", high.meanError(0), 44);
        Check.same("is 34 beyond the tolerance", high.trustAfterSale(0, 0), 90 - 34);
        CrateScale below = Check.yard("crate a 1 0;buyer p 999 10 90;noise 50;seed 9999;readings 1;");
        below.weigh(0);
        Check.same("a mean of -45, not the price of 0, counts", below.trustAfterSale(0, 0), 90 - 36);
    }

    @Sentence(in = "Promise 35", says = {"Returns the money of a buyer.", "- `buyer`: index of a buyer", "Returns the money."})
    static void moneyOfEachBuyer() {
        CrateScale x = FullYard.weighed();
        Check.same("at first", FullYard.ofBuyers(x::moneyOf), "100 9999 300 400 160 0");
        x.sell(12, 3);
        Check.same("vwxy paid 167 and got back 24", FullYard.ofBuyers(x::moneyOf), "100 9999 300 257 160 0");
    }

    @Sentence(in = "Promise 36", says = {"Returns the tolerance of a buyer.", "- `buyer`: index of a buyer", "Returns the tolerance."})
    static void toleranceOfEachBuyer() {
        CrateScale x = FullYard.weighed();
        Check.same("at first", FullYard.ofBuyers(x::toleranceOf), "1 2 3 4 5 6");
        x.sell(12, 3);
        Check.same("a sale leaves it", FullYard.ofBuyers(x::toleranceOf), "1 2 3 4 5 6");
    }

    @Sentence(in = "Promise 37", says = {"Returns the trust of a buyer.", "- `buyer`: index of a buyer", "Returns the trust."})
    static void trustOfEachBuyer() {
        CrateScale x = FullYard.weighed();
        Check.same("at first", FullYard.ofBuyers(x::trustOf), "10 20 40 40 50 60");
        x.sell(12, 3);
        Check.same("24 is 20 beyond vwxy's tolerance", FullYard.ofBuyers(x::trustOf), "10 20 40 20 50 60");
        x.sell(0, 4);
        Check.same("zabcd is content", FullYard.ofBuyers(x::trustOf), "10 20 40 20 55 60");
    }

    @Sentence(in = "Promise 38", says = {"- `buyer`: index of a buyer", "Returns the number of purchases."})
    static void purchasesOfEachBuyer() {
        CrateScale x = FullYard.weighed();
        Check.same("at first", FullYard.ofBuyers(x::purchasesOf), "0 0 0 0 0 0");
        x.sell(12, 3);
        x.sell(0, 1);
        x.sell(15, 3);
        Check.same("two of vwxy, one of qr", FullYard.ofBuyers(x::purchasesOf), "0 1 0 2 0 0");
    }

    @Sentence(in = "Promise 39", says = {"- `crate`: index of a crate", "- `buyer`: index of a buyer"})
    static void reasonsOfEachBuyerForEachCrate() {
        CrateScale x = oneSold();
        String[] due = {"4 2 2 2 4 2 2 2 2 2 2 2 3 1 1 4", "0 2 2 2 0 2 2 2 2 2 2 2 3 1 1 0", "0 2 2 2 5 2 2 2 2 2 2 2 3 1 1 0",
            "5 2 2 2 5 2 2 2 2 2 2 2 3 1 1 5", "0 2 2 2 5 2 2 2 2 2 2 2 3 1 1 5", "5 2 2 2 5 2 2 2 2 2 2 2 3 1 1 5"};
        for (int b = 0; b < 6; b++) {
            int buyer = b;
            Check.same("reasons of buyer " + b, FullYard.ofCrates(c -> x.refusalReason(c, buyer)), due[b]);
        }
    }

    @Sentence(in = "Promise 40", says = {"Returns a detail of the reason why a buyer would refuse a crate.", "- `crate`: index of a crate",
        "- `buyer`: index of a buyer"})
    static void detailsOfEachBuyerForEachCrate() {
        CrateScale x = oneSold();
        String[] due = {"5 0 1 0 5 4 5 6 7 8 4 4 1 0 0 5", "0 0 1 0 0 4 5 6 7 8 4 4 1 0 0 0", "0 0 1 0 448 4 5 6 7 8 4 4 1 0 0 0",
            "29 0 1 0 667 4 5 6 7 8 4 4 1 0 0 95", "0 0 1 0 588 4 5 6 7 8 4 4 1 0 0 16",
            "110 0 1 0 748 4 5 6 7 8 4 4 1 0 0 176"};
        for (int b = 0; b < 6; b++) {
            int buyer = b;
            Check.same("details of buyer " + b, FullYard.ofCrates(c -> x.refusalDetail(c, buyer)), due[b]);
        }
    }

    @Sentence(in = "Promise 41", says = {"- `crate`: index of a crate"})
    static void bestBuyerOfEachCrate() {
        CrateScale x = oneSold();
        Check.same("best buyers", FullYard.ofCrates(x::bestBuyer), "4 -1 -1 -1 1 -1 -1 -1 -1 -1 -1 -1 -1 -1 -1 2");
    }

    @Sentence(in = "Promise 43", says = {"Returns the number of readings."})
    static void readingsOfAllCrates() {
        CrateScale x = FullYard.weighed();
        Check.same("31", x.totalReadings(), 31);
        x.weigh(9);
        Check.same("one more", x.totalReadings(), 32);
        Check.run(x, "weigh a 5;weigh zyxwvu 6;");
        Check.same("eleven more", x.totalReadings(), 43);
    }

    @Sentence(in = "Promise 44", says = {"Returns the number of discarded readings."})
    static void readingsDiscarded() {
        CrateScale x = FullYard.weighed();
        Check.same("none", x.totalDiscarded(), 0);
        x.addGoods(8, 1);
        Check.same("3 of x, 2 of w, 1 of v, 3 of pqrstu and 2 of klmno", x.totalDiscarded(), 11);
        x.moveInto(12, 0);
        Check.same("1 of a", x.totalDiscarded(), 12);
        x.takeOut(14);
        Check.same("2 of n", x.totalDiscarded(), 14);
    }

    @Sentence(in = "Promise 46", says = {"Returns the number of sales."})
    static void salesOfAllBuyers() {
        CrateScale x = FullYard.weighed();
        Check.same("none", x.salesCount(), 0);
        x.sell(0, 1);
        x.sell(12, 3);
        Check.same("two", x.salesCount(), 2);
    }

    @Sentence(in = "Promise 47", says = {"Returns the sum of the prices."})
    static void pricesOfAllSales() {
        CrateScale x = FullYard.weighed();
        x.sell(0, 1);
        Check.same("110", x.totalPrices(), 110);
        x.sell(12, 3);
        Check.same("110 and 167", x.totalPrices(), 277);
    }

    @Sentence(in = "Promise 48", says = {"Returns the sum of the refunds."})
    static void refundsOfAllSales() {
        CrateScale x = FullYard.weighed();
        x.sell(0, 1);
        Check.same("none for a", x.totalRefunds(), 0);
        x.sell(12, 3);
        x.sell(15, 2);
        Check.same("24 for m and 30 for zyxwvu", x.totalRefunds(), 54);
    }

    @Sentence(in = "Promise 49", says = {"Checks the invariants."})
    static void invariantsAfterEachCall() {
        CrateScale x = FullYard.weighed();
        Runnable[] calls = {() -> x.weigh(2), () -> x.addGoods(9, 3), () -> x.removeGoods(4, 3), () -> x.moveInto(14, 3),
            () -> x.takeOut(6), () -> x.saveState(), () -> x.replaceSpring(), () -> x.sell(12, 3), () -> x.setAmplitude(50),
            () -> x.setAging(7), () -> x.weigh(2), () -> x.weigh(7), () -> x.undo(), () -> Check.run(x, "weigh v 7;move w into a;"),
            () -> x.undo(), () -> x.undo(), () -> x.restoreState(), () -> x.weigh(0), () -> Check.load(x, "crate a 1 0;")};
        Check.isTrue("consistent at first", x.isConsistent());
        for (int i = 0; i < calls.length; i++) {
            calls[i].run();
            Check.isTrue("consistent after call " + i, x.isConsistent());
        }
    }

    @Sentence(in = "Promise 50", says = {"Returns the average trust of the buyers."})
    static void averageOfSixTrusts() {
        CrateScale x = FullYard.weighed();
        Check.same("220 by 6", x.averageTrust(), 220f / 6f);
        x.sell(12, 3);
        Check.same("200 by 6", x.averageTrust(), 200f / 6f);
    }
}
