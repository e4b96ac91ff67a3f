import java.util.function.Consumer;

/** The boundaries of the settings and the predictions: promises 26 to 34 and 42. */
final class PredictionBounds {
    private PredictionBounds() {
    }

    private static CrateScale calm() {
        return Check.yard("crate a 2 0;crate b 2 0;noise 0;aging 1;");
    }

    @Sentence(in = "Promise 26", says = "Returns the sag that the next reading would have.")
    static void sagOfTheNextReading() {
        CrateScale x = Check.yard("crate a 1 0;noise 0;aging 2;");
        for (int age = 0; age < 6; age++) {
            Check.same("at age " + age, x.springSag(), age / 2);
            Check.same("the reading that follows", x.weigh(0), 1 + age / 2);
        }
    }

    @Sentence(in = "Promise 27", says = "Returns the amplitude.")
    static void amplitudesAtTheirEnds() {
        Check.same("the least", Check.yard("noise 0;crate a 1 0;").amplitude(), 0);
        Check.same("the greatest", Check.yard("noise 50;crate a 1 0;").amplitude(), 50);
    }

    @Sentence(in = "Promise 28", says = "Returns the aging.")
    static void agingsAtTheirEnds() {
        Check.same("the least", Check.yard("aging 1;crate a 1 0;").aging(), 1);
        Check.same("the greatest", Check.yard("aging 100;crate a 1 0;").aging(), 100);
    }

    @Sentence(in = "Promise 29", says = "Returns the required number of readings.")
    static void requiredReadingsAtTheirEnds() {
        Check.same("the least", Check.yard("readings 1;crate a 1 0;").requiredReadings(), 1);
        Check.same("the greatest", Check.yard("readings 9;crate a 1 0;").requiredReadings(), 9);
    }

    @Sentence(in = "Promise 30", says = "Returns the required trust.")
    static void requiredTrustAtItsEnds() {
        Check.same("the least", Check.yard("trust 0;crate a 1 0;").requiredTrust(), 0);
        Check.same("the greatest", Check.yard("trust 100;crate a 1 0;").requiredTrust(), 100);
    }

    @Sentence(in = "Promise 31", says = "Returns the reading that weigh(crate) would return.")
    static void predictedReadingsAtEachAge() {
        CrateScale x = Check.yard("crate a 1 0;crate b 9 0;noise 50;seed 65;aging 2;");
        for (int i = 0; i < 9; i++) {
            int crate = i % 3 / 2;
            int due = x.predictReading(crate);
            Check.same("the same again", x.predictReading(crate), due);
            Check.same("reading " + i, x.weigh(crate), due);
        }
    }

    @Sentence(in = "Promise 31", says = "Throws `IllegalStateException` if the crate is not in the yard")
    static void noReadingOfASoldCrate() {
        refusesSold("the sold one", x -> x.predictReading(2));
        refusesSold("the one inside it", x -> x.predictReading(3));
        Check.same("one that stays", Check.busy().predictReading(1), -1);
    }

    private static void refusesSold(String what, Consumer<CrateScale> call) {
        Check.refused(what, IllegalStateException.class, Check::busy, call);
    }

    private static void refusesArgument(String what, Consumer<CrateScale> call) {
        Check.refused(what, IllegalArgumentException.class, Check::busy, call);
    }

    @Sentence(in = "Promise 32", says = "number of further readings, 1 to 100")
    static void meansOfOneAndOneHundredMore() {
        CrateScale x = calm();
        Check.same("1 more", x.predictMean(0, 1), 2);
        Check.same("2 more: sags of 0 and 1", x.predictMean(0, 2), 3);
        Check.same("99 more: sags of 0 to 98", x.predictMean(0, 99), 2 + 49);
        Check.same("100 more: sags of 0 to 99", x.predictMean(0, 100), 2 + 50);
        Check.run(x, "weigh a50;weigh a50;");
        Check.same("as weighing does", x.meanReading(0), 2 + 50);
        Check.same("98 after them: sags of 0 to 197", x.predictMean(0, 98), 2 + 99);
        Check.same("100 after them: sags of 0 to 199", x.predictMean(0, 100), 2 + 100);
    }

    @Sentence(in = "Promise 32", says = "Throws `IllegalArgumentException` if readings is out of range")
    static void meansOfNoneAndOfTooManyMore() {
        refusesArgument("0", x -> x.predictMean(0, 0));
        refusesArgument("101", x -> x.predictMean(0, 101));
        refusesArgument("-1", x -> x.predictMean(0, -1));
        Check.argument("the least int", () -> calm().predictMean(0, Integer.MIN_VALUE));
        Check.argument("the greatest int", () -> calm().predictMean(0, Integer.MAX_VALUE));
        Check.argument("0, of a sold crate", () -> Check.busy().predictMean(2, 0));
        Check.argument("101, of a sold crate", () -> Check.busy().predictMean(3, 101));
        Check.range("0, of no crate", () -> Check.busy().predictMean(4, 0));
    }

    @Sentence(in = "Promise 32", says = "Throws `IllegalStateException` if the crate is not in the yard")
    static void noMeanOfASoldCrate() {
        refusesSold("1 of the sold one", x -> x.predictMean(2, 1));
        refusesSold("100 of the one inside it", x -> x.predictMean(3, 100));
    }

    @Sentence(in = "Promise 33", says = "differs from its gross weight by at most a tolerance")
    static void deviationsNextToTheTolerance() {
        CrateScale under = Check.yard("crate a 50 0;noise 50;seed 137;aging 100;");
        Check.same("a mean error of -3", under.predictReading(0), 50 - 3);
        Check.same("within 4", under.readingsUntilWithin(0, 4), 1);
        Check.same("within 3", under.readingsUntilWithin(0, 3), 1);
        Check.same("not within 2", under.readingsUntilWithin(0, 2), 2);
        under.weigh(0);
        Check.same("within 3 now", under.readingsUntilWithin(0, 3), 0);
        Check.same("not within 2 now", under.readingsUntilWithin(0, 2), 1);
        CrateScale over = Check.yard("crate a 50 0;noise 50;seed 28;aging 100;");
        Check.same("3 above is within 3", over.readingsUntilWithin(0, 3), 1);
        Check.same("3 above is not within 2", over.readingsUntilWithin(0, 2), 2);
    }

    @Sentence(in = "Promise 33", says = "`tolerance`: 0 to 50")
    static void tolerancesOfZeroAndFifty() {
        CrateScale x = calm();
        Check.same("0", x.readingsUntilWithin(0, 0), 1);
        Check.same("50", x.readingsUntilWithin(0, 50), 1);
        Check.run(x, "weigh b50;weigh b1;");
        Check.same("a sag of 51 is never within 50", x.readingsUntilWithin(0, 50), CrateScale.NONE);
        x.undo();
        Check.run(x, "weigh b50;");
        Check.same("a sag of 50 is", x.readingsUntilWithin(0, 50), 1);
        Check.same("but not within 49", x.readingsUntilWithin(0, 49), CrateScale.NONE);
    }

    @Sentence(in = "Promise 33", says = "Returns 0 if the crate has readings and their mean is close enough now")
    static void noFurtherReadingIsNeeded() {
        CrateScale x = calm();
        Check.same("without readings at least one is", x.readingsUntilWithin(0, 50), 1);
        x.weigh(0);
        Check.same("exact", x.readingsUntilWithin(0, 0), 0);
        x.weigh(0);
        Check.same("1 above, within 1", x.readingsUntilWithin(0, 1), 0);
        Check.same("1 above, never within 0, as the sag grows", x.readingsUntilWithin(0, 0), CrateScale.NONE);
        x.addGoods(0, 1);
        Check.same("discarded, and the sag is 2", x.readingsUntilWithin(0, 2), 1);
    }

    /** Sags of 25 and 26 make the mean error 51 / (2 + n), which is a half for n = 100. */
    @Sentence(in = "Promise 33", says = "otherwise the least number from 1 to 100; NONE if 100 further readings are not enough")
    static void aHundredAndAHundredAndOne() {
        CrateScale x = calm();
        Check.run(x, "weigh b25;weigh a2;spring;aging 100;");
        Check.same("101 would be enough for 0", x.readingsUntilWithin(0, 0), CrateScale.NONE);
        Check.same("51 / 34 is a half above 1", x.readingsUntilWithin(0, 1), 33);
        CrateScale y = calm();
        Check.run(y, "weigh b50;weigh a1;spring;aging 100;");
        Check.same("50 / 101", y.readingsUntilWithin(0, 0), 100);
        CrateScale z = calm();
        Check.run(z, "weigh b1;weigh a1;spring;aging 100;");
        Check.same("1 / 2 is rounded up, 1 / 3 is not", z.readingsUntilWithin(0, 0), 2);
    }

    @Sentence(in = "Promise 33", says = "Throws `IllegalArgumentException` if tolerance is out of range")
    static void tolerancesOutOfRange() {
        refusesArgument("-1", x -> x.readingsUntilWithin(0, -1));
        refusesArgument("51", x -> x.readingsUntilWithin(0, 51));
        Check.argument("the least int", () -> calm().readingsUntilWithin(0, Integer.MIN_VALUE));
        Check.argument("the greatest int", () -> calm().readingsUntilWithin(0, Integer.MAX_VALUE));
        Check.argument("-1, of a sold crate", () -> Check.busy().readingsUntilWithin(2, -1));
        Check.argument("51, of a sold crate", () -> Check.busy().readingsUntilWithin(3, 51));
        Check.range("51, of no crate", () -> Check.busy().readingsUntilWithin(4, 51));
    }

    @Sentence(in = "Promise 33", says = "Throws `IllegalStateException` if the crate is not in the yard")
    static void noNumberForASoldCrate() {
        refusesSold("the sold one, close enough as it is", x -> x.readingsUntilWithin(2, 50));
        refusesSold("the one inside it", x -> x.readingsUntilWithin(3, 0));
    }

    @Sentence(in = "Promise 34", says = "number of further readings, 1 to 100")
    static void worstOfOneAndOneHundredMore() {
        CrateScale x = calm();
        Check.same("of 1", x.worstErrorWithin(0, 1), 0);
        Check.same("of 2: a half is rounded up", x.worstErrorWithin(0, 2), 1);
        Check.same("of 98: 48.5", x.worstErrorWithin(0, 98), 49);
        Check.same("of 99: 49", x.worstErrorWithin(0, 99), 49);
        Check.same("of 100: 49.5", x.worstErrorWithin(0, 100), 50);
    }

    @Sentence(in = "Promise 34", says = "over its means after 1, 2, and so on up to a number of further readings")
    static void worstOfTheFirstAndOfTheLast() {
        CrateScale x = Check.yard("crate a 50 0;noise 50;seed 65;aging 100;");
        Check.same("the first is the worst of 1", x.worstErrorWithin(0, 1), 50);
        Check.same("and of 100", x.worstErrorWithin(0, 100), 50);
        x.weigh(0);
        Check.same("what is now does not count", x.worstErrorWithin(0, 1), 0);
    }

    @Sentence(in = "Promise 34", says = "Returns the greatest absolute difference.")
    static void worstOfErrorsBelowAndAbove() {
        CrateScale below = Check.yard("crate a 50 0;noise 50;seed 36;");
        Check.same("3 below", below.worstErrorWithin(0, 2), 3);
        CrateScale above = Check.yard("crate a 50 0;noise 50;seed 28;");
        Check.same("3 above", above.worstErrorWithin(0, 2), 3);
    }

    @Sentence(in = "Promise 34", says = "Throws `IllegalArgumentException` if readings is out of range")
    static void worstOfNoneAndOfTooManyMore() {
        refusesArgument("0", x -> x.worstErrorWithin(0, 0));
        refusesArgument("101", x -> x.worstErrorWithin(0, 101));
        refusesArgument("-1", x -> x.worstErrorWithin(0, -1));
        Check.argument("the least int", () -> calm().worstErrorWithin(0, Integer.MIN_VALUE));
        Check.argument("the greatest int", () -> calm().worstErrorWithin(0, Integer.MAX_VALUE));
        Check.argument("0, of a sold crate", () -> Check.busy().worstErrorWithin(2, 0));
        Check.argument("101, of a sold crate", () -> Check.busy().worstErrorWithin(3, 101));
        Check.range("0, of no crate", () -> Check.busy().worstErrorWithin(4, 0));
    }

    @Sentence(in = "Promise 34", says = "Throws `IllegalStateException` if the crate is not in the yard")
    static void noWorstErrorOfASoldCrate() {
        refusesSold("1 of the sold one", x -> x.worstErrorWithin(2, 1));
        refusesSold("100 of the one inside it", x -> x.worstErrorWithin(3, 100));
    }

    @Sentence(in = "Terms 5", says = "Predictions work on a copy and leave everything unchanged.")
    static void predictionsChangeNothing() {
        Check.harmless("the next reading", 509, Check::busy, x -> x.predictReading(0));
        Check.harmless("the second of a pair", -1, Check::busy, x -> x.predictReading(1));
        CrateScale twin = Check.busy();
        Check.weighOften(twin, 0, 100);
        Check.harmless("a mean", twin.meanReading(0), Check::busy, x -> x.predictMean(0, 100));
        Check.harmless("a number", 0, Check::busy, x -> x.readingsUntilWithin(0, 0));
        Check.harmless("a number that is not enough", CrateScale.NONE, Check::busy, x -> x.readingsUntilWithin(1, 0));
        Check.harmless("the worst error, of a mean of 4.5", 3, Check::busy, x -> x.worstErrorWithin(1, 1));
        Check.harmless("a trust", 15, PredictionBounds::forSale, x -> x.trustAfterSale(0, 0));
    }

    private static CrateScale forSale() {
        CrateScale x = Check.yard("crate a 1 0;crate b 1 0 in a;buyer p 9 0 10;noise 0;");
        Check.weighOften(x, 0, 2);
        return x;
    }

    @Sentence(in = "Promise 42", says = "Throws `IllegalStateException` if the buyer would refuse the crate")
    static void noTrustForEachReason() {
        refusesSold("not in the yard", x -> x.trustAfterSale(2, 0));
        refusesSold("inside another", x -> x.trustAfterSale(1, 0));
        Check.refused("too few readings", IllegalStateException.class, () -> Check.yard("crate a 1 0;buyer p 9 0 10;"),
            x -> x.trustAfterSale(0, 0));
        refusesSold("too little trust", x -> x.trustAfterSale(0, 1));
        Check.refused("too little money", IllegalStateException.class, PredictionBounds::dear, x -> x.trustAfterSale(0, 0));
        Check.range("a sold crate and no buyer", () -> Check.busy().trustAfterSale(2, 2));
        Check.range("no crate and no buyer", () -> Check.busy().trustAfterSale(4, 2));
    }

    private static CrateScale dear() {
        CrateScale x = Check.yard("crate a 10 0;buyer p 9 0 10;noise 0;readings 1;");
        x.weigh(0);
        return x;
    }
}
