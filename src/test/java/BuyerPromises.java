/** Promises 35 to 42: buyers, their reasons and their trust. */
final class BuyerPromises {
    private static final String YARD = "crate a 10 90;crate b 5 0 in a;crate c 50 100;"
        + "buyer p 120 0 40;buyer q 105 3 60;buyer r 9999 50 60;noise 0;aging 1;readings 3;trust 50;";

    private BuyerPromises() {
    }

    static void promise35() {
        CrateScale x = Check.yard(YARD);
        Check.same("p", x.moneyOf(0), 120);
        Check.same("r", x.moneyOf(2), 9999);
        Check.weighOften(x, 0, 3);
        x.sell(0, 2);
        Check.same("r after paying 106", x.moneyOf(2), 9893);
        Check.same("q pays nothing", x.moneyOf(1), 105);
        Check.range("buyer 3", () -> x.moneyOf(3));
        Check.range("buyer -1", () -> x.moneyOf(-1));
        Check.same("no money", Check.yard("crate a 1 0;buyer a 0 0 0;").moneyOf(0), 0);
    }

    static void promise36() {
        CrateScale x = Check.yard(YARD);
        Check.same("p", x.toleranceOf(0), 0);
        Check.same("q", x.toleranceOf(1), 3);
        Check.same("r", x.toleranceOf(2), 50);
        Check.range("buyer 3", () -> x.toleranceOf(3));
        Check.range("buyer -1", () -> x.toleranceOf(-1));
    }

    static void promise37() {
        CrateScale x = Check.yard(YARD);
        Check.same("p", x.trustOf(0), 40);
        Check.same("q", x.trustOf(1), 60);
        Check.weighOften(x, 0, 3);
        x.sell(0, 2);
        Check.same("r after a sale", x.trustOf(2), 65);
        Check.same("q did not buy", x.trustOf(1), 60);
        Check.range("buyer 3", () -> x.trustOf(3));
        Check.range("buyer -1", () -> x.trustOf(-1));
    }

    static void promise38() {
        CrateScale x = Check.yard(YARD);
        Check.same("at first", x.purchasesOf(2), 0);
        Check.weighOften(x, 0, 3);
        x.sell(0, 2);
        Check.same("the crate inside does not count", x.purchasesOf(2), 1);
        Check.weighOften(x, 2, 3);
        x.sell(2, 2);
        Check.same("two", x.purchasesOf(2), 2);
        Check.same("q", x.purchasesOf(1), 0);
        x.undo();
        Check.same("undone", x.purchasesOf(2), 1);
        Check.range("buyer 3", () -> x.purchasesOf(3));
        Check.range("buyer -1", () -> x.purchasesOf(-1));
    }

    private static void refusal(CrateScale x, int crate, int buyer, int reason, int detail) {
        String who = "crate " + crate + " and buyer " + buyer;
        Check.same("reason of " + who, x.refusalReason(crate, buyer), reason);
        Check.same("detail of " + who, x.refusalDetail(crate, buyer), detail);
    }

    static void promise39() {
        CrateScale x = Check.yard(YARD);
        refusal(x, 1, 0, 2, 0);
        refusal(x, 0, 0, 3, 3);
        Check.weighOften(x, 0, 2);
        refusal(x, 0, 1, 3, 1);
        x.weigh(0);
        refusal(x, 0, 0, 4, 10);
        refusal(x, 0, 1, 5, 1);
        refusal(x, 0, 2, 0, 0);
        x.sell(0, 2);
        refusal(x, 0, 0, 1, 0);
        refusal(x, 1, 2, 1, 0);
        Check.range("crate 3", () -> x.refusalReason(3, 0));
        Check.range("crate -1", () -> x.refusalReason(-1, 0));
        Check.range("buyer 3", () -> x.refusalReason(0, 3));
        Check.range("buyer -1", () -> x.refusalReason(0, -1));
        edgesOfMoneyAndTrust();
    }

    private static void edgesOfMoneyAndTrust() {
        CrateScale x = Check.yard("crate a 5 5;buyer p 10 0 50;buyer q 9 0 50;buyer r 10 0 49;noise 0;trust 50;readings 1;");
        x.weigh(0);
        refusal(x, 0, 0, 0, 0);
        refusal(x, 0, 1, 5, 1);
        refusal(x, 0, 2, 4, 1);
        CrateScale y = Check.yard("crate a 1 0;buyer p 0 0 0;noise 50;seed 9999;readings 1;");
        y.weigh(0);
        Check.same("a mean of -45 costs nothing", y.refusalReason(0, 0), 0);
    }

    static void promise40() {
        CrateScale x = Check.yard("crate a 10 90;crate d 1 1;crate b 5 0 in d;buyer p 60 0 40;readings 9;trust 41;noise 0;");
        refusal(x, 2, 0, 2, 1);
        refusal(x, 0, 0, 3, 9);
        Check.weighOften(x, 0, 9);
        refusal(x, 0, 0, 4, 1);
        CrateScale y = Check.yard("crate a 10 90;buyer p 60 0 40;readings 1;noise 0;");
        y.weigh(0);
        refusal(y, 0, 0, 5, 40);
        Check.range("crate 3", () -> x.refusalDetail(3, 0));
        Check.range("crate -1", () -> x.refusalDetail(-1, 0));
        Check.range("buyer 1", () -> x.refusalDetail(0, 1));
        Check.range("buyer -1", () -> x.refusalDetail(0, -1));
    }

    static void promise41() {
        CrateScale x = Check.yard(YARD);
        Check.same("too few readings", x.bestBuyer(0), CrateScale.NONE);
        Check.weighOften(x, 0, 3);
        Check.same("q has the trust of r, but not the money", x.bestBuyer(0), 2);
        x.setAging(100);
        x.replaceSpring();
        x.removeGoods(0, 90);
        Check.weighOften(x, 0, 3);
        Check.same("q comes before r", x.bestBuyer(0), 1);
        Check.same("a crate inside another", x.bestBuyer(1), CrateScale.NONE);
        x.sell(0, 1);
        Check.same("sold", x.bestBuyer(0), CrateScale.NONE);
        CrateScale y = Check.yard("crate a 1 0;buyer p 9 9 1;buyer q 9 9 0;buyer r 9 9 3;buyer s 9 9 2;noise 0;readings 1;");
        y.weigh(0);
        Check.same("the greatest trust", y.bestBuyer(0), 2);
        CrateScale z = Check.yard("crate a 1 0;buyer p 9 9 0;noise 0;readings 1;");
        z.weigh(0);
        Check.same("no trust, and none required", z.bestBuyer(0), 0);
        CrateScale free = Check.yard("crate a 1 0;noise 50;seed 9999;readings 1;");
        free.weigh(0);
        Check.same("no buyers, and a price of 0", free.bestBuyer(0), CrateScale.NONE);
        Check.range("crate 3", () -> x.bestBuyer(3));
        Check.range("crate -1", () -> x.bestBuyer(-1));
    }

    static void promise42() {
        CrateScale x = Check.yard("crate a 1 0;buyer p 9 3 96;buyer q 9 4 50;buyer r 9 3 0;buyer s 9 0 3;buyer t 9 50 95;"
            + "noise 0;aging 1;readings 1;");
        Check.state("too few readings", () -> x.trustAfterSale(0, 0));
        Check.weighOften(x, 0, 9);
        String before = Check.view(x);
        Check.same("a deviation of 4 and a tolerance of 3", x.trustAfterSale(0, 0), 95);
        Check.same("a deviation of 4 and a tolerance of 4", x.trustAfterSale(0, 1), 55);
        Check.same("not below 0", x.trustAfterSale(0, 2), 0);
        Check.same("not below 0 by more than 1", x.trustAfterSale(0, 3), 0);
        Check.same("up to 100", x.trustAfterSale(0, 4), 100);
        Check.same("nothing changed", Check.view(x), before);
        CrateScale y = Check.yard("crate a 1 0;buyer p 9 50 96;noise 0;readings 1;");
        y.weigh(0);
        Check.same("not above 100", y.trustAfterSale(0, 0), 100);
        y.sell(0, 0);
        Check.state("sold", () -> y.trustAfterSale(0, 0));
        CrateScale low = Check.yard("crate a 1 0;buyer p 9 40 96;noise 50;seed 9999;readings 1;");
        low.weigh(0);
        Check.same("a deviation of 46 below the weight", low.trustAfterSale(0, 0), 90);
        Check.range("crate 1", () -> x.trustAfterSale(1, 0));
        Check.range("crate -1", () -> x.trustAfterSale(-1, 0));
        Check.range("buyer 5", () -> x.trustAfterSale(0, 5));
        Check.range("buyer -1", () -> x.trustAfterSale(0, -1));
    }
}
