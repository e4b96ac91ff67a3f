/** The boundaries of setups: the statements of section 4 of the terms, and promises 1 and 4. */
final class SetupBounds {
    private static final String CRATE = "crate a 1 0;";

    private SetupBounds() {
    }

    @Sentence(in = "Promise 1", says = "with an empty input buffer and an empty output")
    static void aNewObjectIsEmpty() {
        CrateScale x = new CrateScale();
        Check.isTrue("a length of 1", !x.truncateInput(1));
        Check.isTrue("a length of 0", x.truncateInput(0));
        Check.same("20 bytes make 20", x.appendInput(0, 0, 0, 0, 0), 20);
        Check.same("output", x.outputByte(0), CrateScale.NONE);
        Check.same("an empty script", new CrateScale().runScript(), 0);
        Check.element("no change", () -> new CrateScale().undo());
        Check.element("no saved state", () -> new CrateScale().restoreState());
    }

    @Sentence(in = "Promise 1", says = "Creates the yard of the setup text")
    static void aNewObjectIsLikeALoadedOne() {
        String text = "crate apple 3 20;crate pear 2 15 in apple;crate plum 5 0;crate fig 1 9 in pear;"
            + "buyer amy 200 3 50;buyer ben 60 1 80;noise 4;seed 7;aging 10;readings 2;trust 30;";
        Check.same("all that can be seen", Check.whole(new CrateScale()), Check.whole(Check.yard(text)));
        CrateScale x = new CrateScale();
        Check.same("crates", Check.tree(x, 0) + Check.tree(x, 2), "apple:50[pear:27[fig:10]]plum:5");
        CrateScale other = new CrateScale();
        other.weigh(0);
        Check.load(other, CRATE);
        Check.same("objects share nothing", Check.whole(new CrateScale()), Check.whole(Check.yard(text)));
    }

    @Sentence(in = "Promise 4", says = "empties the buffer in any case")
    static void theBufferIsEmptyAfterEachKindOfText() {
        for (String text : new String[] {"", CRATE, "crate 5", " ".repeat(600), "x".repeat(600)}) {
            CrateScale x = new CrateScale();
            Check.load(x, text);
            Check.isTrue("empty after " + text, !x.truncateInput(1) && x.truncateInput(0));
            Check.same("and again without a crate", x.loadYard() + " " + x.errorCode() + " " + x.errorOffset(), "-1 7 0");
        }
    }

    @Sentence(in = "Promise 4", says = "it replaces all crates, buyers, settings and totals")
    static void nothingOfTheFormerYardIsLeft() {
        CrateScale x = IndexBounds.full();
        Check.run(x, "noise 50;aging 1;weigh a50;add a500;move b into a;weigh c50;sell c to a;spring;");
        Check.same("the least yard", Check.load(x, CRATE), 1);
        Check.same("as if it were the first", Check.whole(x), Check.whole(Check.yard(CRATE)));
        CrateScale y = Check.busy();
        y.truncateInput(0);
        y.writeTree(0);
        String full = IndexBounds.crates(16) + IndexBounds.buyers(6);
        Check.same("the greatest yard", Check.load(y, full), 16);
        CrateScale z = Check.yard(full);
        Check.same("as if it were the first", Check.view(y), Check.view(z));
        Check.same("the totals", y.totalReadings() + y.totalDiscarded() + y.springsReplaced() + y.salesCount() + y.totalPrices()
            + y.totalRefunds(), 0);
    }

    @Sentence(in = "Promise 4", says = "the spring is then new, there are no readings, nothing can be undone and no state is saved")
    static void theSameYardAnew() {
        CrateScale x = Check.yard(CRATE);
        x.weigh(0);
        x.saveState();
        Check.load(x, CRATE);
        Check.same("age and readings", x.springAge() + " " + x.readingCount(0), "0 0");
        Check.element("no change", () -> x.undo());
        Check.element("no saved state", () -> x.restoreState());
        x.weigh(0);
        Check.same("only what came after", x.undo(), 0);
        Check.element("no more", () -> x.undo());
    }

    @Sentence(in = "Promise 4", says = "If the text has an error, only the buffer and the reported error change.")
    static void eachErrorLeavesTheYard() {
        String[] texts = {"?", CRATE + CRATE, "noise 50;aging 1;crate a 51 0;", CRATE + "crate b 1 0 in c;",
            YardBounds.DEEP + "crate g 1 0 in f;", IndexBounds.crates(17), "noise 50;aging 1;readings 9;trust 100;seed 9;"};
        int[] codes = {1, 3, 2, 4, 5, 6, 7};
        for (int i = 0; i < texts.length; i++) {
            CrateScale x = Check.busy();
            x.truncateInput(0);
            Check.same("load of " + texts[i], Check.load(x, texts[i]), CrateScale.NONE);
            Check.same("its error", x.errorCode(), codes[i]);
            CrateScale y = Check.busy();
            y.truncateInput(0);
            Check.same("all but the error after " + texts[i], withoutError(Check.whole(x)), withoutError(Check.whole(y)));
        }
    }

    private static String withoutError(String whole) {
        return whole.substring(whole.indexOf("a:502"));
    }

    @Sentence(in = "Promise 4", says = "Returns the number of crates, or NONE if the text has an error.")
    static void answersOfOneToSixteenAndNone() {
        for (int count = 1; count <= 16; count++) {
            Check.same(count + " crates", Check.load(new CrateScale(), IndexBounds.crates(count)), count);
        }
        Check.same("17 crates", Check.load(new CrateScale(), IndexBounds.crates(17)), CrateScale.NONE);
        Check.same("no crate", Check.load(new CrateScale(), ""), CrateScale.NONE);
    }

    @Sentence(in = "Terms 4", says = "crate NAME N N in NAME   (a crate inside a crate that was created earlier in the text)")
    static void theCrateBeforeAndTheCrateItself() {
        CrateScale x = Check.yard("crate a 1 0;crate b 1 0 in a;crate c 1 0 in a;");
        Check.same("in the first and in one before the last", x.parentOf(1) + " " + x.parentOf(2), "0 0");
        Check.loadError("crate a 1 0 in a;", CrateScale.UNKNOWN_NAME, 15);
        Check.loadError("crate a 1 0 in b;crate b 1 0;", CrateScale.UNKNOWN_NAME, 15);
        CrateScale in = Check.yard("crate in 1 0;crate a 1 0 in in;");
        Check.same("a crate of the name in", in.parentOf(1), 0);
    }

    @Sentence(in = "Terms 4", says = "buyer NAME N N N   (money 0 to 9999, tolerance, trust)")
    static void buyersAtBothEnds() {
        CrateScale x = Check.yard(CRATE + "buyer a 0 0 0;buyer b 9999 50 100;");
        Check.same("the least", x.moneyOf(0) + " " + x.toleranceOf(0) + " " + x.trustOf(0), "0 0 0");
        Check.same("the greatest", x.moneyOf(1) + " " + x.toleranceOf(1) + " " + x.trustOf(1), "9999 50 100");
        Check.loadError("buyer a 10000 0 0;", CrateScale.SYNTAX, 8);
        Check.loadError("buyer a 0 51 0;", CrateScale.OUT_OF_RANGE, 10);
        Check.loadError("buyer a 0 0 101;", CrateScale.OUT_OF_RANGE, 12);
    }

    @Sentence(in = "Terms 4", says = "noise N   (the amplitude; 5 if it is not given)")
    static void noiseAtBothEndsAndNotGiven() {
        Check.same("0", Check.yard("noise 0;" + CRATE).amplitude(), 0);
        Check.same("50", Check.yard("noise 50;" + CRATE).amplitude(), 50);
        Check.loadError("noise 51;", CrateScale.OUT_OF_RANGE, 6);
        Check.same("not given", Check.yard(CRATE).amplitude(), 5);
        CrateScale x = Check.yard("noise 50;" + CRATE);
        Check.load(x, CRATE);
        Check.same("given before only", x.amplitude(), 5);
    }

    @Sentence(in = "Terms 4", says = "seed N   (the state of the generator, 0 to 9999; 1 if it is not given)")
    static void seedAtBothEndsAndNotGiven() {
        Check.same("0", Check.yard("noise 50;seed 0;" + CRATE).weigh(0), 1 + 74 - 50);
        Check.same("9999", Check.yard("noise 50;seed 9999;" + CRATE).weigh(0), 1 + 29092 % 101 - 50);
        Check.loadError("seed 10000;", CrateScale.SYNTAX, 5);
        Check.same("not given", Check.yard("noise 50;" + CRATE).weigh(0), 1 + 149 % 101 - 50);
        CrateScale x = Check.yard("seed 9999;" + CRATE);
        x.weigh(0);
        Check.load(x, "noise 50;" + CRATE);
        Check.same("given before only", x.weigh(0), 1 + 149 % 101 - 50);
    }

    @Sentence(in = "Terms 4", says = "aging N   (50 if it is not given)")
    static void agingAtBothEndsAndNotGiven() {
        Check.same("1", Check.yard("aging 1;" + CRATE).aging(), 1);
        Check.same("100", Check.yard("aging 100;" + CRATE).aging(), 100);
        Check.loadError("aging 0;", CrateScale.OUT_OF_RANGE, 6);
        Check.loadError("aging 101;", CrateScale.OUT_OF_RANGE, 6);
        CrateScale x = Check.yard("aging 1;" + CRATE);
        Check.load(x, CRATE);
        Check.same("not given", x.aging(), 50);
    }

    @Sentence(in = "Terms 4", says = "readings N   (the required number of readings, 1 to 9; 2 if it is not given)")
    static void requiredReadingsAtBothEndsAndNotGiven() {
        Check.same("1", Check.yard("readings 1;" + CRATE).requiredReadings(), 1);
        Check.same("9", Check.yard("readings 9;" + CRATE).requiredReadings(), 9);
        Check.loadError("readings 0;", CrateScale.OUT_OF_RANGE, 9);
        Check.loadError("readings 10;", CrateScale.OUT_OF_RANGE, 9);
        CrateScale x = Check.yard("readings 9;" + CRATE);
        Check.load(x, CRATE);
        Check.same("not given", x.requiredReadings(), 2);
    }

    @Sentence(in = "Terms 4", says = "trust N   (the required trust, 0 to 100; 0 if it is not given)")
    static void requiredTrustAtBothEndsAndNotGiven() {
        Check.same("0", Check.yard("trust 0;" + CRATE).requiredTrust(), 0);
        Check.same("100", Check.yard("trust 100;" + CRATE).requiredTrust(), 100);
        Check.loadError("trust 101;", CrateScale.OUT_OF_RANGE, 6);
        CrateScale x = Check.yard("trust 100;" + CRATE);
        Check.load(x, CRATE);
        Check.same("not given", x.requiredTrust(), 0);
    }

    @Sentence(in = "Constants", says = "`NONE = -1`: Result for \"there is none\".")
    static void none() {
        Check.same("NONE", CrateScale.NONE, -1);
    }

    @Sentence(in = "Constants", says = "`NO_ERROR = 0`: Error code: no error.")
    static void noError() {
        Check.same("NO_ERROR", CrateScale.NO_ERROR, 0);
    }

    @Sentence(in = "Constants", says = "`SYNTAX = 1`: Error code: a token is not allowed at its place.")
    static void syntax() {
        Check.same("SYNTAX", CrateScale.SYNTAX, 1);
    }

    @Sentence(in = "Constants", says = "`OUT_OF_RANGE = 2`: Error code: a number is out of range.")
    static void outOfRange() {
        Check.same("OUT_OF_RANGE", CrateScale.OUT_OF_RANGE, 2);
    }

    @Sentence(in = "Constants", says = "`DUPLICATE_NAME = 3`: Error code: a name is used already.")
    static void duplicateName() {
        Check.same("DUPLICATE_NAME", CrateScale.DUPLICATE_NAME, 3);
    }

    @Sentence(in = "Constants", says = "`UNKNOWN_NAME = 4`: Error code: a name is not known.")
    static void unknownName() {
        Check.same("UNKNOWN_NAME", CrateScale.UNKNOWN_NAME, 4);
    }

    @Sentence(in = "Constants", says = "`TOO_DEEP = 5`: Error code: a crate would be nested too deeply.")
    static void tooDeep() {
        Check.same("TOO_DEEP", CrateScale.TOO_DEEP, 5);
    }

    @Sentence(in = "Constants", says = "`TOO_MANY = 6`: Error code: there are too many crates, buyers or statements.")
    static void tooMany() {
        Check.same("TOO_MANY", CrateScale.TOO_MANY, 6);
    }

    @Sentence(in = "Constants", says = "`NO_CRATE = 7`: Error code: there is no crate.")
    static void noCrate() {
        Check.same("NO_CRATE", CrateScale.NO_CRATE, 7);
    }
}
