/** The boundaries of buyers and of sums over them: section 3 of the terms and promises 35 to 50 and 57. */
final class BuyerBounds {
    private BuyerBounds() {
    }

    /** One crate whose mean error is the number of readings less 1, halved and rounded up. */
    private static CrateScale sagging(String buyer, int gross, int meanError) {
        CrateScale x = Check.yard("crate a " + Math.min(50, gross) + " " + Math.max(0, gross - 50) + ";buyer p " + buyer
            + ";noise 0;aging 1;readings 1;");
        Check.weighOften(x, 0, 2 * meanError + 1);
        Check.same("the mean error", x.meanError(0), meanError);
        return x;
    }

    /** One crate of gross weight 1 whose only reading has this noise, by the seed that makes it. */
    private static CrateScale noisy(String buyer, int seed) {
        CrateScale x = Check.yard("crate a 1 0;buyer p " + buyer + ";noise 50;readings 1;seed " + seed + ";");
        x.weigh(0);
        return x;
    }

    @Sentence(in = "Terms 3", says = "There are at most 6 buyers, indexed from 0 in the order of their creation.")
    static void noneToSixBuyersAndNoMore() {
        Check.same("none", Check.yard("crate a 1 0;").buyerCount(), 0);
        Check.same("five", Check.yard("crate a 1 0;" + IndexBounds.buyers(5)).buyerCount(), 5);
        CrateScale x = Check.yard("crate a 1 0;" + IndexBounds.buyers(6));
        Check.same("six", x.buyerCount(), 6);
        for (int i = 0; i < 6; i++) {
            Check.same("name of buyer " + i, x.buyerNameByte(i, 0), 'a' + i);
        }
        CrateScale y = new CrateScale();
        Check.same("seven", Check.load(y, "crate a 1 0;" + IndexBounds.buyers(7)), CrateScale.NONE);
        Check.same("the yard keeps its two", y.buyerCount(), 2);
    }

    @Sentence(in = "Terms 3", says = "A buyer has a name of 1 to 6 lowercase letters")
    static void namesOfOneAndSixLetters() {
        CrateScale x = Check.yard("crate a 1 0;buyer z 0 0 0;buyer zyxcba 0 0 0;");
        Check.same("one letter", x.buyerNameByte(0, 0) + " " + x.buyerNameByte(0, 1), "122 -1");
        Check.same("six letters", x.buyerNameByte(1, 5) + " " + x.buyerNameByte(1, 6), "97 -1");
        Check.loadError("buyer 7 1 0 0;", CrateScale.SYNTAX, 6);
        Check.loadError("buyer zyxcbaa 1 0 0;", CrateScale.SYNTAX, 6);
        Check.loadError("buyer zyxcbA 1 0 0;", CrateScale.SYNTAX, 11);
    }

    @Sentence(in = "Terms 3", says = "money (0 to 9999 at first)")
    static void moneyOfZeroAndOfAllDigits() {
        CrateScale x = Check.yard("crate a 1 0;buyer p 0 0 0;buyer q 1 0 0;buyer r 9998 0 0;buyer s 9999 0 0;");
        Check.same("money", x.moneyOf(0) + " " + x.moneyOf(1) + " " + x.moneyOf(2) + " " + x.moneyOf(3), "0 1 9998 9999");
        Check.loadError("buyer p 10000 0 0;", CrateScale.SYNTAX, 8);
    }

    @Sentence(in = "Terms 3", says = "a tolerance of 0 to 50")
    static void tolerancesOfZeroAndFifty() {
        CrateScale x = Check.yard("crate a 1 0;buyer p 0 0 0;buyer q 0 1 0;buyer r 0 49 0;buyer s 0 50 0;");
        Check.same("tolerances", x.toleranceOf(0) + " " + x.toleranceOf(1) + " " + x.toleranceOf(2) + " " + x.toleranceOf(3),
            "0 1 49 50");
        Check.loadError("buyer p 0 51 0;", CrateScale.OUT_OF_RANGE, 10);
    }

    @Sentence(in = "Terms 3", says = "a trust of 0 to 100")
    static void trustOfZeroAndOneHundred() {
        CrateScale x = Check.yard("crate a 1 0;buyer p 0 0 0;buyer q 0 0 1;buyer r 0 0 99;buyer s 0 0 100;");
        Check.same("trust", x.trustOf(0) + " " + x.trustOf(1) + " " + x.trustOf(2) + " " + x.trustOf(3), "0 1 99 100");
        Check.loadError("buyer p 0 0 101;", CrateScale.OUT_OF_RANGE, 12);
    }

    @Sentence(in = "Terms 3", says = "The price of a crate is its mean reading, or 0 if the mean reading is negative.")
    static void pricesNextToZero() {
        CrateScale below = noisy("0 50 0", 1);
        Check.same("a mean of -1", below.meanReading(0), -1);
        Check.same("costs nothing", below.sell(0, 0), 0);
        Check.same("nothing was paid", below.totalPrices() + " " + below.moneyOf(0), "0 0");
        CrateScale zero = noisy("0 50 0", 67);
        Check.same("a mean of 0", zero.meanReading(0), 0);
        Check.same("costs nothing", zero.sell(0, 0), 0);
        CrateScale above = noisy("0 50 0", 32);
        Check.same("a mean of 1 costs 1", above.refusalReason(0, 0) + " " + above.refusalDetail(0, 0), "5 1");
        CrateScale paid = noisy("1 50 0", 32);
        Check.same("and is paid", paid.sell(0, 0) + " " + paid.moneyOf(0), "1 0");
    }

    /** For each reason a crate to which all later ones apply as well. */
    @Sentence(in = "Terms 3", says = "A buyer refuses a crate for the first of these reasons that applies")
    static void eachReasonWithAllLaterOnes() {
        CrateScale x = Check.yard("crate a 10 0;crate b 10 0 in a;crate c 10 0;buyer p 0 0 0;buyer q 99 0 99;buyer r 99 0 0;"
            + "buyer s 0 0 99;noise 0;readings 2;trust 99;");
        x.weigh(1);
        Check.same("inside, 1 reading, no trust, no money", x.refusalReason(1, 0), 2);
        x.weigh(2);
        Check.same("1 reading, no trust, no money", x.refusalReason(2, 0), 3);
        x.weigh(2);
        Check.same("no trust, no money", x.refusalReason(2, 0), 4);
        Check.same("no trust", x.refusalReason(2, 2), 4);
        Check.same("no money", x.refusalReason(2, 3), 5);
        Check.same("none", x.refusalReason(2, 1), 0);
        Check.weighOften(x, 0, 2);
        x.sell(0, 1);
        Check.same("sold inside another, 1 reading, no trust, no money", x.refusalReason(1, 0), 1);
        Check.same("sold, no trust, no money", x.refusalReason(0, 0), 1);
        Check.same("sold to the same buyer", x.refusalReason(0, 1), 1);
    }

    @Sentence(in = "Terms 3", says = "3, the crate has fewer stored readings than the required number of readings")
    static void readingsNextToTheRequiredNumber() {
        for (int required : new int[] {1, 2, 9}) {
            CrateScale x = Check.yard("crate a 1 0;buyer p 9 0 0;noise 0;readings " + required + ";");
            for (int taken = 0; taken <= required + 1; taken++) {
                Check.same(taken + " of " + required, x.refusalReason(0, 0), taken < required ? 3 : 0);
                x.weigh(0);
            }
        }
    }

    @Sentence(in = "Terms 3", says = "4, the trust of the buyer is less than the required trust")
    static void trustNextToTheRequiredTrust() {
        int[][] trustRequiredReason = {{0, 0, 0}, {0, 1, 4}, {49, 50, 4}, {50, 50, 0}, {51, 50, 0}, {99, 100, 4}, {100, 100, 0}};
        for (int[] row : trustRequiredReason) {
            CrateScale x = Check.yard("crate a 1 0;buyer p 9 0 " + row[0] + ";noise 0;readings 1;trust " + row[1] + ";");
            x.weigh(0);
            Check.same("trust " + row[0] + " of " + row[1], x.refusalReason(0, 0), row[2]);
        }
    }

    @Sentence(in = "Terms 3", says = "5, the price is greater than the money of the buyer")
    static void moneyNextToThePrice() {
        Check.same("1 less", sagging("54 0 0", 50, 5).refusalReason(0, 0), 5);
        Check.same("as much", sagging("55 0 0", 50, 5).refusalReason(0, 0), 0);
        Check.same("1 more", sagging("56 0 0", 50, 5).refusalReason(0, 0), 0);
        CrateScale heavy = Check.yard("crate a 50 500;crate b 50 500 in a;buyer p 1099 0 0;buyer q 1100 0 0;noise 0;readings 1;");
        heavy.weigh(0);
        Check.same("of a heavy one", heavy.refusalReason(0, 0) + " " + heavy.refusalReason(0, 1), "5 0");
    }

    @Sentence(in = "Terms 3", says = "When a crate is sold, the buyer pays the price.")
    static void theLastMoneyIsPaid() {
        CrateScale x = sagging("55 5 0", 50, 5);
        Check.same("the price, which is tolerated", x.sell(0, 0), 55);
        Check.same("nothing is left", x.moneyOf(0), 0);
        Check.same("paid", x.totalPrices(), 55);
    }

    @Sentence(in = "Terms 3", says = "If the deviation is at most the tolerance of the buyer, the trust grows by 5")
    static void deviationsNextToTheTolerance() {
        Check.same("1 less", afterSale(sagging("999 5 50", 50, 4)), "54 0 55");
        Check.same("as much", afterSale(sagging("999 5 50", 50, 5)), "55 0 55");
        Check.same("1 more", afterSale(sagging("999 5 50", 50, 6)), "50 6 49");
        Check.same("none, of none", afterSale(sagging("999 0 50", 50, 0)), "50 0 55");
        Check.same("1, of none", afterSale(sagging("999 0 50", 50, 1)), "50 1 49");
        Check.same("50, of 50", afterSale(sagging("999 50 50", 50, 50)), "100 0 55");
        Check.same("51, of 50", afterSale(sagging("999 50 50", 50, 51)), "50 51 49");
        Check.same("2 below, of 2", afterSale(noisy("9 2 50", 1)), "0 0 55");
        Check.same("2 below, of 1", afterSale(noisy("9 1 50", 1)), "0 0 49");
    }

    /** What sell answers, the refunds, and the trust after that, which trustAfterSale tells before. */
    private static String afterSale(CrateScale x) {
        int predicted = x.trustAfterSale(0, 0);
        int paid = x.sell(0, 0);
        Check.same("the predicted trust", predicted, x.trustOf(0));
        return paid + " " + x.totalRefunds() + " " + x.trustOf(0);
    }

    @Sentence(in = "Terms 3", says = "the trust grows by 5, but not above 100")
    static void trustNextToOneHundred() {
        int[][] trustAndAfter = {{0, 5}, {94, 99}, {95, 100}, {96, 100}, {99, 100}, {100, 100}};
        for (int[] row : trustAndAfter) {
            Check.same("from " + row[0], afterSale(sagging("99 0 " + row[0], 1, 0)), "1 0 " + row[1]);
        }
    }

    @Sentence(in = "Terms 3", says = "Otherwise the trust shrinks by the deviation minus the tolerance, but not below 0")
    static void trustNextToZero() {
        int[][] trustAndAfter = {{0, 0}, {1, 0}, {3, 0}, {4, 0}, {5, 1}, {100, 96}};
        for (int[] row : trustAndAfter) {
            Check.same("from " + row[0] + " by 4", afterSale(sagging("99 6 " + row[0], 1, 10)), "1 10 " + row[1]);
        }
    }

    @Sentence(in = "Terms 3", says = "if the mean reading is greater than the gross weight, the buyer gets the difference back as a refund")
    static void refundsAboveAndBelowTheWeight() {
        Check.same("1 above", afterSale(sagging("99 0 9", 20, 1)), "20 1 8");
        Check.same("the whole difference, not only what is above the tolerance", afterSale(sagging("99 3 9", 20, 4)), "20 4 8");
        Check.same("within the tolerance", afterSale(sagging("99 4 9", 20, 4)), "24 0 14");
        CrateScale below = Check.yard("crate a 20 0;buyer p 99 0 9;noise 50;readings 1;seed 67;");
        below.weigh(0);
        Check.same("1 below", afterSale(below), "19 0 8");
        Check.same("50 below, where the mean is below 0", afterSale(noisy("99 0 99", 65)), "0 0 49");
    }

    @Sentence(in = "Promise 38", says = "without the crates inside them")
    static void purchasesOfNestedCrates() {
        CrateScale x = Check.yard(YardBounds.DEEP + "crate g 1 0;buyer p 99 0 0;buyer q 99 0 0;noise 0;readings 1;");
        Check.same("none", x.purchasesOf(0), 0);
        x.weigh(0);
        x.sell(0, 0);
        Check.same("six crates in one", x.purchasesOf(0), 1);
        x.weigh(6);
        x.sell(6, 0);
        Check.same("two", x.purchasesOf(0) + " " + x.purchasesOf(1), "2 0");
    }

    @Sentence(in = "Promise 39", says = "Tells why a buyer would refuse a crate (section 3).")
    static void askingForTheReasonChangesNothing() {
        Check.harmless("a reason", 1, Check::busy, x -> x.refusalReason(2, 0));
        Check.harmless("a detail", 0, Check::busy, x -> x.refusalDetail(1, 0));
        Check.harmless("the best buyer", 0, Check::busy, x -> x.bestBuyer(0));
    }

    @Sentence(in = "Promise 39", says = "1 to 5, or 0 if the buyer would buy the crate")
    static void reasonsAndSalesAgree() {
        CrateScale x = Check.busy();
        Check.same("0", x.refusalReason(0, 0), 0);
        Check.same("2", x.refusalReason(1, 0), 2);
        Check.same("1", x.refusalReason(3, 0), 1);
        Check.same("4", x.refusalReason(0, 1), 4);
        Check.state("what is refused is not sold", () -> x.sell(0, 1));
        Check.same("what is not refused is", x.sell(0, 0), 502);
    }

    @Sentence(in = "Promise 40", says = "for reason 2 the index of the parent")
    static void detailOfAParent() {
        CrateScale x = IndexBounds.full();
        x.moveInto(1, 0);
        Check.same("the first crate, which is no missing detail", x.refusalReason(1, 0) + " " + x.refusalDetail(1, 0), "2 0");
        x.moveInto(14, 15);
        Check.same("the last crate", x.refusalDetail(14, 0), 15);
        x.moveInto(15, 0);
        Check.same("the parent, not the outermost", x.refusalDetail(14, 0), 15);
    }

    @Sentence(in = "Promise 40", says = "for reason 3 the number of readings that are missing")
    static void detailOfReadings() {
        CrateScale x = Check.yard("crate a 1 0;buyer p 9 0 0;readings 9;noise 0;");
        for (int taken = 0; taken < 9; taken++) {
            Check.same("after " + taken, x.refusalDetail(0, 0), 9 - taken);
            x.weigh(0);
        }
        Check.same("after 9", x.refusalDetail(0, 0), 0);
    }

    @Sentence(in = "Promise 40", says = "for reason 4 the trust that is missing")
    static void detailOfTrust() {
        int[][] trustAndMissing = {{0, 100}, {1, 99}, {99, 1}, {100, 0}};
        for (int[] row : trustAndMissing) {
            CrateScale x = Check.yard("crate a 1 0;buyer p 9 0 " + row[0] + ";trust 100;readings 1;noise 0;");
            x.weigh(0);
            Check.same("of " + row[0], x.refusalDetail(0, 0), row[1]);
        }
    }

    @Sentence(in = "Promise 40", says = "for reason 5 the money that is missing")
    static void detailOfMoney() {
        Check.same("all", sagging("0 0 0", 20, 3).refusalDetail(0, 0), 23);
        Check.same("1", sagging("22 0 0", 20, 3).refusalDetail(0, 0), 1);
        Check.same("none", sagging("23 0 0", 20, 3).refusalDetail(0, 0), 0);
    }

    @Sentence(in = "Promise 40", says = "0 for reason 1 and without a reason")
    static void noDetail() {
        CrateScale x = Check.busy();
        Check.same("sold", x.refusalReason(2, 1) + " " + x.refusalDetail(2, 1), "1 0");
        Check.same("sold inside another", x.refusalReason(3, 0) + " " + x.refusalDetail(3, 0), "1 0");
        Check.same("not refused", x.refusalReason(0, 0) + " " + x.refusalDetail(0, 0), "0 0");
    }

    private static CrateScale priced(String buyers) {
        CrateScale x = Check.yard("crate a 10 0;" + buyers + "noise 0;readings 1;");
        x.weigh(0);
        return x;
    }

    @Sentence(in = "Promise 41", says = "the buyer with the greatest trust among the buyers who would not refuse a crate")
    static void theGreatestTrustAtEachPlace() {
        Check.same("the first", priced("buyer p 10 0 2;buyer q 10 0 1;buyer r 10 0 0;").bestBuyer(0), 0);
        Check.same("the last", priced("buyer p 10 0 0;buyer q 10 0 1;buyer r 10 0 2;").bestBuyer(0), 2);
        Check.same("the one in the middle", priced("buyer p 10 0 99;buyer q 10 0 100;buyer r 10 0 0;").bestBuyer(0), 1);
        Check.same("the only one with the money", priced("buyer p 9 0 100;buyer q 9 0 99;buyer r 10 0 0;").bestBuyer(0), 2);
    }

    @Sentence(in = "Promise 41", says = "the smallest index if several have the same trust")
    static void theSameTrust() {
        Check.same("of all six", priced(IndexBounds.buyers(6).replace("9", "10")).bestBuyer(0), 0);
        Check.same("of the last two", priced("buyer p 10 0 0;buyer q 10 0 5;buyer r 10 0 5;").bestBuyer(0), 1);
        Check.same("of the outer two", priced("buyer p 10 0 5;buyer q 10 0 0;buyer r 10 0 5;").bestBuyer(0), 0);
        Check.same("where the first refuses", priced("buyer p 9 0 5;buyer q 10 0 5;buyer r 10 0 5;").bestBuyer(0), 1);
    }

    @Sentence(in = "Promise 41", says = "NONE if all buyers would refuse")
    static void allRefuse() {
        Check.same("no buyers", priced("").bestBuyer(0), CrateScale.NONE);
        CrateScale free = Check.yard("crate a 1 0;noise 50;seed 65;readings 1;");
        free.weigh(0);
        Check.same("no buyers, though it costs nothing", free.bestBuyer(0), CrateScale.NONE);
        Check.same("one without the money", priced("buyer p 9 0 0;").bestBuyer(0), CrateScale.NONE);
        Check.same("six without the money", priced(IndexBounds.buyers(6)).bestBuyer(0), CrateScale.NONE);
        Check.same("a sold crate", Check.busy().bestBuyer(2), CrateScale.NONE);
        Check.same("a crate inside another", Check.busy().bestBuyer(1), CrateScale.NONE);
        Check.same("without a reading", Check.yard("crate a 1 0;buyer p 9 0 0;readings 1;").bestBuyer(0), CrateScale.NONE);
    }

    @Sentence(in = "Promise 46", says = "Returns the number of sales since the setup was loaded.")
    static void salesOfAllCrates() {
        CrateScale x = Check.yard(IndexBounds.crates(16) + "buyer p 99 0 0;noise 0;readings 1;");
        for (int i = 0; i < 16; i++) {
            Check.same("sales", x.salesCount(), i);
            x.weigh(i);
            x.sell(i, 0);
        }
        Check.same("all sixteen", x.salesCount() + " " + x.purchasesOf(0) + " " + x.totalPrices(), "16 16 16");
        Check.load(x, "crate a 1 0;");
        Check.same("none since the load", x.salesCount(), 0);
    }

    @Sentence(in = "Promise 47", says = "before refunds")
    static void pricesWithTheirRefunds() {
        CrateScale x = sagging("999 0 0", 20, 9);
        Check.same("none", x.totalPrices(), 0);
        Check.same("paid", x.sell(0, 0), 20);
        Check.same("the price", x.totalPrices(), 29);
        Check.same("the refund", x.totalRefunds(), 9);
        Check.load(x, "crate a 1 0;");
        Check.same("none since the load", x.totalPrices() + " " + x.totalRefunds(), "0 0");
    }

    @Sentence(in = "Promise 48", says = "Returns the sum of all refunds since the setup was loaded.")
    static void refundsOfTwoSales() {
        CrateScale x = Check.yard("crate a 9 0;crate b 9 0;buyer p 99 0 0;noise 0;aging 1;readings 1;");
        Check.same("none", x.totalRefunds(), 0);
        x.weigh(0);
        x.sell(0, 0);
        Check.same("none for an exact mean", x.totalRefunds(), 0);
        x.weigh(1);
        x.sell(1, 0);
        Check.same("1 for the sag", x.totalRefunds(), 1);
        x.undo();
        Check.same("undone", x.totalRefunds(), 0);
    }

    @Sentence(in = "Promise 50", says = "divided by the number of buyers converted to float; 0 if there are no buyers")
    static void trustOfNoneOneAndSix() {
        Check.same("no buyers", priced("").averageTrust(), 0f);
        Check.same("one without trust", priced("buyer p 0 0 0;").averageTrust(), 0f);
        Check.same("one", priced("buyer p 0 0 100;").averageTrust(), 100f);
        Check.same("1 of 3", priced("buyer p 0 0 1;buyer q 0 0 0;buyer r 0 0 0;").averageTrust(), 1f / 3f);
        Check.same("six", priced(IndexBounds.buyers(6).replace("9 0 0", "0 0 100")).averageTrust(), 100f);
        Check.same("599 of 6", priced(IndexBounds.buyers(5).replace("9 0 0", "0 0 100") + "buyer z 0 0 99;").averageTrust(),
            599f / 6f);
    }

    @Sentence(in = "Promise 49", says = "plus the error term of the first reading of an unfinished pair")
    static void soundWithPairsFinishedAndNot() {
        CrateScale x = Check.yard("crate a 1 0;crate b 1 0 in a;noise 50;seed 65;aging 1;");
        for (int i = 0; i < 7; i++) {
            Check.isTrue("after " + i, x.isConsistent());
            x.weigh(0);
            x.setAmplitude(i * 7);
        }
        x.addGoods(1, 500);
        Check.isTrue("discarded with an unfinished pair", x.isConsistent());
        x.undo();
        Check.isTrue("undone", x.isConsistent());
    }

    @Sentence(in = "Promise 49", says = "equal to the gross weights computed by adding the weight of each crate to all its ancestors")
    static void soundAtEachDepth() {
        CrateScale x = Check.yard(YardBounds.DEEP + "crate g 50 500;");
        Check.isTrue("six levels", x.isConsistent());
        x.moveInto(6, 4);
        Check.isTrue("two at the deepest", x.isConsistent());
        x.removeGoods(6, 500);
        Check.isTrue("emptied at the deepest", x.isConsistent());
        x.takeOut(1);
        Check.isTrue("taken out", x.isConsistent());
        Check.isTrue("sixteen crates", IndexBounds.full().isConsistent());
    }

    @Sentence(in = "Promise 49", says = "The money of all buyers plus the prices minus the refunds is the money at the time of loading.")
    static void soundMoney() {
        CrateScale x = sagging("999 0 0", 20, 9);
        x.sell(0, 0);
        Check.isTrue("with a refund", x.isConsistent());
        CrateScale y = noisy("0 0 0", 65);
        y.sell(0, 0);
        Check.isTrue("without money and price", y.isConsistent());
        Check.isTrue("without buyers", priced("").isConsistent());
        x.undo();
        Check.isTrue("undone", x.isConsistent());
    }

    @Sentence(in = "Promise 49", says = "The number of all readings is the number of stored readings plus the number of discarded ones.")
    static void soundReadings() {
        CrateScale x = Check.yard("crate a 9 0;crate b 9 0;buyer p 99 9 0;noise 0;readings 1;");
        Check.weighOften(x, 0, 2);
        x.addGoods(0, 1);
        Check.weighOften(x, 1, 2);
        x.sell(1, 0);
        x.weigh(0);
        Check.isTrue("stored, discarded and sold", x.isConsistent());
        Check.same("their numbers", x.totalReadings() + " " + x.totalDiscarded() + " " + x.saveState(), "5 2 3");
        x.restoreState();
        Check.isTrue("restored", x.isConsistent());
    }

    @Sentence(in = "Promise 49", says = "Returns true if all invariants hold, which is always the case.")
    static void soundFromTheFirst() {
        Check.harmless("at first", true, CrateScale::new, x -> x.isConsistent());
        Check.harmless("later", true, Check::busy, x -> x.isConsistent());
        CrateScale x = new CrateScale();
        Check.load(x, "crate 1;");
        Check.isTrue("after a refused load", x.isConsistent());
    }
}
