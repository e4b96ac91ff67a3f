/** The boundaries of scripts: their statements in section 4 of the terms, and promise 5. */
final class ScriptBounds {
    private ScriptBounds() {
    }

    @Sentence(in = "Terms 4", says = "weigh NAME N   (that many readings, 1 to 50)")
    static void oneAndFiftyReadings() {
        CrateScale x = new CrateScale();
        Check.same("1", Check.run(x, "weigh fig 1;") + " " + x.readingCount(3), "1 1");
        Check.same("50", Check.run(x, "weigh fig 50;") + " " + x.readingCount(3), "1 51");
        Check.scriptError("weigh fig 0;", CrateScale.OUT_OF_RANGE, 10);
        Check.scriptError("weigh fig 51;", CrateScale.OUT_OF_RANGE, 10);
    }

    @Sentence(in = "Terms 4", says = "add NAME N   (goods, 1 to 500)")
    static void oneAndFiveHundredGoodsMore() {
        CrateScale x = new CrateScale();
        Check.same("500", Check.run(x, "add plum 500;") + " " + x.goodsOf(2), "1 500");
        Check.same("1", Check.run(x, "add fig 1;") + " " + x.goodsOf(3), "1 10");
        Check.same("490", Check.run(x, "add fig 490;") + " " + x.goodsOf(3), "1 500");
        Check.same("1 too many", Check.run(x, "add fig 1;") + " " + x.goodsOf(3), "0 500");
        Check.scriptError("add fig 0;", CrateScale.OUT_OF_RANGE, 8);
        Check.scriptError("add fig 501;", CrateScale.OUT_OF_RANGE, 8);
    }

    @Sentence(in = "Terms 4", says = "remove NAME N   (goods, 1 to 500)")
    static void oneAndFiveHundredGoodsLess() {
        CrateScale x = Check.yard("crate a 1 500;crate b 1 1;");
        Check.same("500", Check.run(x, "remove a 500;") + " " + x.goodsOf(0), "1 0");
        Check.same("1", Check.run(x, "remove b 1;") + " " + x.goodsOf(1), "1 0");
        Check.same("1 too many", Check.run(x, "remove b 1;") + " " + x.goodsOf(1), "0 0");
        Check.scriptError("remove fig 0;", CrateScale.OUT_OF_RANGE, 11);
        Check.scriptError("remove fig 501;", CrateScale.OUT_OF_RANGE, 11);
    }

    @Sentence(in = "Terms 4", says = "spring   (replace the spring)")
    static void aSpringWithoutReadings() {
        CrateScale x = new CrateScale();
        Check.same("two in a row", Check.run(x, "spring;spring;") + " " + x.springsReplaced(), "2 2");
        Check.scriptError("spring spring;", CrateScale.SYNTAX, 7);
    }

    @Sentence(in = "Terms 4", says = "noise N")
    static void noiseAtBothEnds() {
        CrateScale x = new CrateScale();
        Check.same("0", Check.run(x, "noise 0;") + " " + x.amplitude(), "1 0");
        Check.same("50", Check.run(x, "noise 50;") + " " + x.amplitude(), "1 50");
        Check.scriptError("noise 51;", CrateScale.OUT_OF_RANGE, 6);
    }

    @Sentence(in = "Terms 4", says = "aging N")
    static void agingAtBothEnds() {
        CrateScale x = new CrateScale();
        Check.same("1", Check.run(x, "aging 1;") + " " + x.aging(), "1 1");
        Check.same("100", Check.run(x, "aging 100;") + " " + x.aging(), "1 100");
        Check.scriptError("aging 0;", CrateScale.OUT_OF_RANGE, 6);
        Check.scriptError("aging 101;", CrateScale.OUT_OF_RANGE, 6);
    }

    @Sentence(in = "Terms 4", says = "move NAME into NAME")
    static void movesToTheGreatestDepth() {
        CrateScale x = Check.yard(YardBounds.DEEP + "crate g 1 0;");
        Check.same("to a depth of 5", Check.run(x, "move g into e;") + " " + x.depthOf(6), "1 5");
        Check.same("to a depth of 6", Check.run(x, "move g into f;") + " " + x.depthOf(6), "0 5");
        Check.same("into itself", Check.run(x, "move g into g;"), 0);
        Check.same("into what is inside it", Check.run(x, "move a into g;"), 0);
    }

    @Sentence(in = "Terms 4", says = "takeout NAME")
    static void takingOutOnceAndTwice() {
        CrateScale x = new CrateScale();
        Check.same("the second one is too many", Check.run(x, "takeout fig;takeout fig;spring;"), 1);
        Check.same("taken out", x.parentOf(3) + " " + x.springsReplaced(), "-1 0");
    }

    @Sentence(in = "Terms 4", says = "sell NAME to NAME   (a crate, a buyer)")
    static void sellingOnceAndTwice() {
        CrateScale x = new CrateScale();
        Check.same("the second one is too many", Check.run(x, "weigh plum 2;sell plum to amy;sell plum to amy;spring;"), 2);
        Check.same("sold", x.salesCount() + " " + x.springsReplaced(), "1 0");
        Check.same("one reading too few", Check.run(new CrateScale(), "weigh plum 1;sell plum to amy;"), 1);
    }

    @Sentence(in = "Promise 5", says = "empties the buffer in any case")
    static void theBufferIsEmptyAfterEachKindOfText() {
        for (String text : new String[] {"", "spring;", "takeout apple;", "spring", " ".repeat(600), "x".repeat(600)}) {
            CrateScale x = new CrateScale();
            Check.run(x, text);
            Check.isTrue("empty after " + text, !x.truncateInput(1) && x.truncateInput(0));
            Check.same("and again without a statement", x.runScript() + " " + x.errorCode() + " " + x.errorOffset(), "0 0 -1");
        }
    }

    @Sentence(in = "Promise 5", says = "its statements are executed in order, like the methods weigh (once for each reading)")
    static void fiftyReadingsAreLikeFiftyCalls() {
        CrateScale x = Check.busy();
        x.truncateInput(0);
        Check.run(x, "aging 1;weigh b 50;noise 0;weigh a 1;weigh b 1;");
        CrateScale y = Check.busy();
        y.setAging(1);
        Check.weighOften(y, 1, 50);
        y.setAmplitude(0);
        y.weigh(0);
        y.weigh(1);
        Check.same("the same yard", Check.view(x), Check.view(y));
    }

    @Sentence(in = "Promise 5", says = "Execution ends at the first statement whose method would throw; that statement has no effect.")
    static void eachStatementThatWouldThrow() {
        String[] wrong = {"weigh d 1;", "weigh e 50;", "add a 4;", "add d 1;", "remove b 1;", "remove a 498;", "remove d 1;",
            "move a into b;", "move a into a;", "move a into d;", "move d into a;", "takeout a;", "takeout e;", "sell a to q;",
            "sell b to p;", "sell d to p;"};
        for (String statement : wrong) {
            CrateScale x = Check.busy();
            x.truncateInput(0);
            Check.same("ends at the second: " + statement, Check.run(x, "aging 7;" + statement + "aging 8;noise 50;"), 1);
            CrateScale y = Check.busy();
            y.truncateInput(0);
            Check.run(y, "aging 7;");
            Check.same("no effect of " + statement, Check.whole(x), Check.whole(y));
        }
    }

    @Sentence(in = "Promise 5", says = "A weigh statement throws only if its first reading would.")
    static void weighingACrateJustSold() {
        CrateScale x = new CrateScale();
        Check.same("all fifty before, none after", Check.run(x, "weigh plum 50;sell plum to amy;weigh plum 50;"), 2);
        Check.same("readings", x.readingCount(2) + " " + x.totalReadings(), "50 50");
    }

    @Sentence(in = "Promise 5", says = "If the text has no error, the whole script is one change.")
    static void scriptsOfNoneOneAndThirtyStatements() {
        for (String script : new String[] {"", " \n", "spring;", "weigh fig 50;".repeat(30), "takeout apple;spring;"}) {
            CrateScale x = new CrateScale();
            x.replaceSpring();
            String before = Check.view(x);
            Check.run(x, script);
            Check.same("one is left after undoing " + script, x.undo(), 1);
            Check.same("as before " + script, Check.view(x), before);
        }
        CrateScale y = Check.busy();
        y.truncateInput(0);
        Check.run(y, "spring;spring");
        Check.same("a text with an error is none", y.undo(), 2);
    }

    @Sentence(in = "Promise 5", says = "Returns the number of statements that were executed, or NONE if the text has an error.")
    static void answersOfZeroToThirtyAndNone() {
        for (int count = 0; count <= 30; count++) {
            Check.same(count + " statements", Check.run(new CrateScale(), "spring;".repeat(count)), count);
        }
        Check.same("31", Check.run(new CrateScale(), "spring;".repeat(31)), CrateScale.NONE);
        Check.same("the 30th would throw", Check.run(new CrateScale(), "spring;".repeat(29) + "takeout apple;"), 29);
        Check.same("the 1st would throw", Check.run(new CrateScale(), "takeout apple;"), 0);
        CrateScale x = new CrateScale();
        Check.same("an error in the last", Check.run(x, "spring;spring;weigh apple 51;"), CrateScale.NONE);
        Check.same("nothing was executed", x.springsReplaced(), 0);
    }

    @Sentence(in = "Promise 5", says = "Parses the input buffer as a script (section 4)")
    static void errorsLeaveAllButTheBufferAndTheError() {
        for (String text : new String[] {"?", "spring;weigh a 51;", "spring;weigh c 1;", "spring;".repeat(31), "spring;spring"}) {
            CrateScale x = Check.busy();
            x.truncateInput(0);
            Check.same("run of " + text, Check.run(x, text), CrateScale.NONE);
            Check.run(x, "?");
            CrateScale y = Check.busy();
            y.truncateInput(0);
            Check.same("after " + text, Check.whole(x), Check.whole(y));
        }
    }
}
