import java.util.function.Consumer;

/** The boundaries of changes, of exceptions and of undo: section 5 of the terms and promises 51 to 60. */
final class ChangeBounds {
    private ChangeBounds() {
    }

    private static void refusesState(String what, Consumer<CrateScale> call) {
        Check.refused(what, IllegalStateException.class, Check::busy, call);
    }

    private static void refusesArgument(String what, Consumer<CrateScale> call) {
        Check.refused(what, IllegalArgumentException.class, Check::busy, call);
    }

    /** The call is a change: one more can be undone, and undoing it leaves no trace. */
    private static void isChange(String what, Consumer<CrateScale> call) {
        CrateScale x = Check.busy();
        call.accept(x);
        Check.same("changes before " + what, x.undo(), 3);
        Check.same("all that can be seen after undoing " + what, Check.whole(x), Check.whole(Check.busy()));
    }

    @Sentence(in = "Terms 5", says = "A method that is described as a change can be undone if it did not throw")
    static void eachChangeIsUndone() {
        isChange("weigh", x -> x.weigh(0));
        isChange("addGoods", x -> x.addGoods(0, 3));
        isChange("removeGoods", x -> x.removeGoods(0, 497));
        isChange("takeOut", x -> x.takeOut(1));
        isChange("moveInto", x -> x.moveInto(1, 0));
        isChange("replaceSpring", x -> x.replaceSpring());
        isChange("sell", x -> x.sell(0, 0));
        isChange("setAmplitude", x -> x.setAmplitude(50));
        isChange("setAging", x -> x.setAging(100));
    }

    @Sentence(in = "Terms 5", says = "even if it left everything as it was")
    static void changesThatLeaveEverythingAsItWas() {
        isChange("the same amplitude", x -> x.setAmplitude(7));
        isChange("the same aging", x -> x.setAging(2));
        CrateScale x = new CrateScale();
        String before = Check.view(x);
        x.moveInto(3, 1);
        Check.same("an only child into its own parent", Check.view(x), before);
        x.runScript();
        Check.same("an empty script", Check.view(x), before);
        Check.run(x, "takeout apple;");
        Check.same("a script that ends at once", Check.view(x), before);
        Check.same("three changes", x.undo(), 2);
    }

    /** What is no change takes no change's place either. */
    @Sentence(in = "Promise 60", says = "Undoes the latest change that has not been undone.")
    static void onlyChangesAreUndone() {
        CrateScale x = Check.yard("crate a 1 0;noise 0;");
        x.weigh(0);
        for (int i = 0; i < 9; i++) {
            x.appendInput(i, i, i, i, i);
            x.truncateInput(i);
            x.loadYard();
            x.writeTree(0);
            x.saveState();
            x.predictMean(0, 9);
        }
        Check.run(x, "?");
        Check.argument("a refused change", () -> x.setAmplitude(51));
        Check.same("the reading alone", x.undo(), 0);
        Check.same("is undone", x.readingCount(0), 0);
        x.weigh(0);
        x.weigh(0);
        Check.same("one of two", x.undo(), 1);
        x.replaceSpring();
        Check.same("the new one, not the undone one", x.undo(), 1);
        Check.same("the age of one reading", x.springAge(), 1);
        Check.same("the older one", x.undo(), 0);
        Check.same("age", x.springAge(), 0);
    }

    @Sentence(in = "Terms 5", says = "At most the 8 latest changes can be undone.")
    static void sevenEightAndNineChanges() {
        for (int changes : new int[] {0, 1, 7, 8, 9, 15, 16, 17, 100}) {
            CrateScale x = Check.yard("crate a 1 0;noise 0;");
            Check.weighOften(x, 0, changes);
            int kept = Math.min(8, changes);
            for (int left = kept - 1; left >= 0; left--) {
                Check.same("left of " + changes, x.undo(), left);
                Check.same("readings of " + changes, x.readingCount(0), changes - kept + left);
            }
            Check.element("no more of " + changes, () -> x.undo());
            Check.same("readings that stay", x.readingCount(0), changes - kept);
        }
    }

    @Sentence(in = "Promise 60", says = "Returns the number of changes that can still be undone.")
    static void undoneChangesMakeRoom() {
        CrateScale x = Check.yard("crate a 1 0;noise 0;");
        Check.weighOften(x, 0, 8);
        x.undo();
        x.undo();
        x.undo();
        Check.weighOften(x, 0, 3);
        Check.same("5 and 3 are 8", x.undo(), 7);
        Check.weighOften(x, 0, 2);
        Check.same("7 and 2 are 8, too", x.undo(), 7);
        for (int left = 6; left >= 0; left--) {
            Check.same("left", x.undo(), left);
        }
        Check.same("of 9 readings one can't be undone", x.readingCount(0), 1);
        Check.element("no more", () -> x.undo());
    }

    @Sentence(in = "Promise 60", says = "Throws `NoSuchElementException` if there is no change to undo")
    static void nothingToUndo() {
        Class<?> kind = java.util.NoSuchElementException.class;
        Check.refused("a new object", kind, CrateScale::new, x -> x.undo());
        Check.refused("a restored one", kind, ChangeBounds::restored, x -> x.undo());
        Check.refused("one that was undone", kind, ChangeBounds::undone, x -> x.undo());
    }

    private static CrateScale restored() {
        CrateScale x = Check.busy();
        x.restoreState();
        return x;
    }

    private static CrateScale undone() {
        CrateScale x = Check.busy();
        x.undo();
        x.undo();
        x.undo();
        return x;
    }

    @Sentence(in = "Promise 60", says = "The input buffer, the reported error, the output and the saved state stay as they are.")
    static void whatUndoLeaves() {
        CrateScale x = Check.busy();
        x.saveState();
        x.undo();
        Check.same("the error", x.errorCode() + " " + x.errorOffset(), "1 0");
        Check.same("the output", Check.output(x), "a:502[b:2]");
        Check.same("the input", x.runScript() + " " + x.amplitude(), "2 9");
        Check.same("the saved state", x.restoreState(), 9);
    }

    @Sentence(in = "Terms 5", says = "the one that comes first in its throws clause is thrown")
    static void callsWithSeveralExceptions() {
        Check.range("no crate to add to, and no weight", () -> Check.busy().addGoods(4, 0));
        Check.argument("a sold crate to add to, and no weight", () -> Check.busy().addGoods(2, 0));
        Check.argument("a crate without room, and too much weight", () -> Check.busy().addGoods(0, 501));
        Check.range("no crate to remove from, and too much weight", () -> Check.busy().removeGoods(-1, 501));
        Check.argument("a sold crate to remove from, and too much weight", () -> Check.busy().removeGoods(3, 501));
        Check.argument("an empty crate, and too much weight", () -> Check.busy().removeGoods(1, 501));
        Check.range("a sold crate into no crate", () -> Check.busy().moveInto(2, 4));
        Check.range("no crate into a sold crate", () -> Check.busy().moveInto(4, 2));
        Check.range("a sold crate to no buyer", () -> Check.busy().sell(2, 2));
        Check.range("no crate to a buyer without trust", () -> Check.busy().sell(4, 1));
        Check.range("a mean of no crate", () -> Check.busy().meanReading(4));
        Check.range("a prediction of no crate, and no readings", () -> Check.busy().predictMean(-1, 0));
        Check.argument("a prediction of a sold crate, and no readings", () -> Check.busy().predictMean(2, 0));
        Check.range("a number for no crate, and no tolerance", () -> Check.busy().readingsUntilWithin(-1, -1));
        Check.argument("a number for a sold crate, and no tolerance", () -> Check.busy().readingsUntilWithin(2, -1));
        Check.range("a worst error of no crate, and no readings", () -> Check.busy().worstErrorWithin(4, 101));
        Check.argument("a worst error of a sold crate, and no readings", () -> Check.busy().worstErrorWithin(3, 101));
        Check.range("the trust for a sold crate and no buyer", () -> Check.busy().trustAfterSale(2, -1));
    }

    @Sentence(in = "Terms 5", says = "A method that throws leaves everything unchanged.")
    static void refusedCallsAfterEightChanges() {
        CrateScale x = eight();
        Check.range("no crate", () -> x.weigh(1));
        Check.argument("no weight", () -> x.addGoods(0, 0));
        Check.state("no goods", () -> x.removeGoods(0, 1));
        Check.state("itself", () -> x.moveInto(0, 0));
        Check.state("top-level", () -> x.takeOut(0));
        Check.range("no buyer", () -> x.sell(0, 0));
        Check.argument("amplitude", () -> x.setAmplitude(51));
        Check.argument("aging", () -> x.setAging(0));
        Check.element("no saved state", () -> x.restoreState());
        Check.same("all eight can be undone as before", Check.whole(x), Check.whole(eight()));
    }

    private static CrateScale eight() {
        CrateScale x = Check.yard("crate a 1 0;");
        Check.weighOften(x, 0, 8);
        return x;
    }

    @Sentence(in = "Promise 51", says = "Throws `IllegalStateException` if the crate is not in the yard")
    static void weighingSoldCrates() {
        refusesState("the sold one", x -> x.weigh(2));
        refusesState("the one inside it", x -> x.weigh(3));
        CrateScale x = Check.busy();
        x.undo();
        x.undo();
        Check.same("before the sale", x.weigh(2), 102);
    }

    @Sentence(in = "Promise 52", says = "`weight`: 1 to 500")
    static void addingOneAndFiveHundred() {
        CrateScale x = new CrateScale();
        Check.same("1", x.addGoods(2, 1), 6);
        Check.same("498", x.addGoods(2, 498), 504);
        Check.same("the last one", x.addGoods(2, 1), 505);
        CrateScale y = new CrateScale();
        Check.same("500", y.addGoods(2, 500), 505);
    }

    @Sentence(in = "Promise 52", says = "Throws `IllegalArgumentException` if weight is out of range")
    static void addingWhatIsOutOfRange() {
        refusesArgument("0", x -> x.addGoods(1, 0));
        refusesArgument("501", x -> x.addGoods(1, 501));
        refusesArgument("-1", x -> x.addGoods(0, -1));
        Check.argument("the least int", () -> new CrateScale().addGoods(2, Integer.MIN_VALUE));
        Check.argument("the greatest int", () -> new CrateScale().addGoods(2, Integer.MAX_VALUE));
    }

    @Sentence(in = "Promise 52", says = "if the crate is not in the yard, or its goods weight would exceed 500")
    static void addingNextToFiveHundred() {
        refusesState("501", x -> x.addGoods(0, 4));
        refusesState("997", x -> x.addGoods(0, 500));
        refusesState("a sold one", x -> x.addGoods(2, 1));
        refusesState("inside a sold one", x -> x.addGoods(3, 1));
        Check.same("499", Check.busy().addGoods(0, 2), 504);
        Check.same("500", Check.busy().addGoods(0, 3), 505);
        Check.same("500 inside a full one", Check.yard("crate a 1 500;crate b 1 0 in a;").addGoods(1, 500), 501);
    }

    @Sentence(in = "Promise 53", says = "`weight`: 1 to 500")
    static void removingOneAndFiveHundred() {
        CrateScale x = Check.yard("crate a 1 500;crate b 1 500;");
        Check.same("1", x.removeGoods(0, 1), 500);
        Check.same("498", x.removeGoods(0, 498), 2);
        Check.same("the last one", x.removeGoods(0, 1), 1);
        Check.same("500", x.removeGoods(1, 500), 1);
    }

    @Sentence(in = "Promise 53", says = "Throws `IllegalArgumentException` if weight is out of range")
    static void removingWhatIsOutOfRange() {
        refusesArgument("0", x -> x.removeGoods(0, 0));
        refusesArgument("501", x -> x.removeGoods(0, 501));
        refusesArgument("-1", x -> x.removeGoods(0, -1));
        Check.argument("the least int", () -> new CrateScale().removeGoods(0, Integer.MIN_VALUE));
        Check.argument("the greatest int", () -> new CrateScale().removeGoods(0, Integer.MAX_VALUE));
    }

    @Sentence(in = "Promise 53", says = "if the crate is not in the yard, or its goods weight is less than weight")
    static void removingNextToAll() {
        refusesState("1 more than all", x -> x.removeGoods(0, 498));
        refusesState("1 of none, though there is tare", x -> x.removeGoods(1, 1));
        refusesState("a sold one", x -> x.removeGoods(2, 1));
        refusesState("inside a sold one", x -> x.removeGoods(3, 1));
        Check.same("1 less than all", Check.busy().removeGoods(0, 496), 6);
        Check.same("all", Check.busy().removeGoods(0, 497), 5);
        Check.state("not from what is inside", () -> Check.yard("crate a 1 0;crate b 1 500 in a;").removeGoods(0, 1));
    }

    @Sentence(in = "Promise 54", says = "Moves a crate into another crate, as its last child.")
    static void movingToTheLastPlace() {
        CrateScale x = Check.yard("crate a 1 0;crate b 1 0 in a;crate c 1 0 in a;crate d 1 0;");
        Check.same("behind two", x.moveInto(3, 0) + Check.tree(x, 0), "1a:4[b:1,c:1,d:1]");
        Check.same("the first into the second", x.moveInto(1, 2) + Check.tree(x, 0), "2a:4[c:2[b:1],d:1]");
        Check.same("and back", x.moveInto(1, 0) + Check.tree(x, 0), "1a:4[c:1,d:1,b:1]");
    }

    @Sentence(in = "Promise 54", says = "it discards readings even if the crate was inside that crate before")
    static void movingToTheSamePlace() {
        CrateScale x = Check.yard("crate a 1 0;crate b 1 0 in a;crate c 1 0 in b;");
        for (int i = 0; i < 3; i++) {
            x.weigh(i);
        }
        x.moveInto(2, 1);
        Check.same("the parent's and those above", x.readingCount(0) + " " + x.readingCount(1) + " " + x.readingCount(2), "0 0 1");
        Check.same("discarded", x.totalDiscarded(), 2);
        Check.same("the tree", Check.tree(x, 0), "a:3[b:2[c:1]]");
    }

    @Sentence(in = "Promise 54", says = "if one of the crates is not in the yard")
    static void movingSoldCrates() {
        refusesState("a sold one", x -> x.moveInto(2, 0));
        refusesState("one inside a sold one", x -> x.moveInto(3, 0));
        refusesState("into a sold one", x -> x.moveInto(0, 2));
        refusesState("into one inside a sold one", x -> x.moveInto(1, 3));
        refusesState("both sold, as they are", x -> x.moveInto(3, 2));
    }

    @Sentence(in = "Promise 54", says = "outer is the crate itself or is inside it at any depth")
    static void movingIntoItselfAtEachDepth() {
        for (int outer = 0; outer <= 5; outer++) {
            int inside = outer;
            Check.refused("into " + outer, IllegalStateException.class, () -> Check.yard(YardBounds.DEEP),
                x -> x.moveInto(0, inside));
        }
        Check.refused("the innermost into itself", IllegalStateException.class, () -> Check.yard(YardBounds.DEEP),
            x -> x.moveInto(5, 5));
        Check.same("the innermost into the outermost", Check.yard(YardBounds.DEEP).moveInto(5, 0), 1);
        Check.same("into its parent's neighbour", Check.yard("crate a 1 0;crate b 1 0 in a;crate c 1 0 in a;").moveInto(1, 2), 2);
    }

    @Sentence(in = "Promise 54", says = "or a crate would get a depth of more than 5")
    static void movingToDepthFiveAndSix() {
        String text = YardBounds.DEEP + "crate g 1 0;crate h 1 0 in g;crate i 1 0 in h;crate j 1 0 in g;";
        for (int outer = 0; outer <= 5; outer++) {
            CrateScale x = Check.yard(text);
            int into = outer;
            if (outer <= 2) {
                Check.same("three levels into depth " + outer, x.moveInto(6, outer), outer + 1);
                Check.same("the deepest", x.depthOf(8), outer + 3);
            } else {
                Check.refused("three levels into depth " + outer, IllegalStateException.class, () -> Check.yard(text),
                    y -> y.moveInto(6, into));
            }
        }
        Check.same("the lower two levels into depth 3", Check.yard(text).moveInto(7, 3), 4);
        Check.state("the lower two levels into depth 4", () -> Check.yard(text).moveInto(7, 4));
        Check.same("one level into depth 4", Check.yard(text).moveInto(9, 4), 5);
        Check.state("one level into depth 5", () -> Check.yard(text).moveInto(9, 5));
        Check.same("what would be too deep leaves first", Check.run(Check.yard(text), "takeout i;move g into d;"), 2);
    }

    @Sentence(in = "Promise 54", says = "`outer`: index of the new parent")
    static void movingBetweenTheFirstAndTheLast() {
        CrateScale x = IndexBounds.full();
        Check.same("the last into the first", x.moveInto(15, 0) + " " + x.parentOf(15), "1 0");
        x.takeOut(15);
        Check.same("the first into the last", x.moveInto(0, 15) + " " + x.parentOf(0), "1 15");
    }

    @Sentence(in = "Promise 55", says = "if the crate is not in the yard or is a top-level crate")
    static void takingOutWhatIsNotInside() {
        refusesState("a top-level crate", x -> x.takeOut(0));
        refusesState("a sold one", x -> x.takeOut(2));
        refusesState("one inside a sold one", x -> x.takeOut(3));
        CrateScale x = Check.busy();
        Check.same("one that is inside", x.takeOut(1), 500);
        Check.state("it is a top-level crate now", () -> x.takeOut(1));
        Check.same("the deepest", Check.yard(YardBounds.DEEP).takeOut(5), 1);
    }

    @Sentence(in = "Promise 56", says = "Replaces the spring by a new one.")
    static void replacingANewAndAnOldSpring() {
        CrateScale x = Check.yard("crate a 1 0;noise 0;aging 1;");
        Check.same("a new one", x.replaceSpring(), 0);
        x.weigh(0);
        Check.same("after one reading", x.replaceSpring(), 1);
        Check.same("twice in a row", x.replaceSpring(), 0);
        Check.run(x, "weigh a50;".repeat(30));
        Check.same("after a whole script", x.replaceSpring(), 1500);
        Check.same("no sag", x.springSag() + " " + x.predictReading(0), "0 1");
    }

    @Sentence(in = "Promise 57", says = "Throws `IllegalStateException` if the buyer refuses the crate")
    static void sellingForEachReason() {
        refusesState("not in the yard", x -> x.sell(2, 0));
        refusesState("inside a sold one", x -> x.sell(3, 0));
        refusesState("inside another", x -> x.sell(1, 0));
        refusesState("too little trust", x -> x.sell(0, 1));
        Check.refused("too few readings", IllegalStateException.class, () -> priced(10, 1), x -> x.sell(0, 0));
        Check.refused("too little money", IllegalStateException.class, () -> priced(9, 2), x -> x.sell(0, 0));
        Check.same("just enough", priced(10, 2).sell(0, 0), 10);
    }

    private static CrateScale priced(int money, int readings) {
        CrateScale x = Check.yard("crate a 10 0;buyer p " + money + " 0 0;noise 0;");
        Check.weighOften(x, 0, readings);
        return x;
    }

    @Sentence(in = "Promise 57", says = "Returns the price minus the refund.")
    static void answersOfZeroAndOfTheWeight() {
        Check.same("no refund", priced(99, 2).sell(0, 0), 10);
        CrateScale low = Check.yard("crate a 1 0;buyer p 0 0 0;noise 50;seed 65;readings 1;");
        low.weigh(0);
        Check.same("a mean of -49", low.sell(0, 0), 0);
        CrateScale x = Check.yard("crate a 10 0;buyer p 99 0 0;noise 0;aging 1;readings 1;");
        Check.weighOften(x, 0, 3);
        Check.same("11 and 1 back", x.sell(0, 0), 10);
    }

    @Sentence(in = "Promise 58", says = "`amplitude`: 0 to 50")
    static void amplitudesOfZeroAndFifty() {
        for (int amplitude : new int[] {0, 1, 49, 50}) {
            CrateScale x = new CrateScale();
            x.setAmplitude(amplitude);
            Check.same("the amplitude", x.amplitude(), amplitude);
            Check.same("599 mod " + (2 * amplitude + 1), x.weigh(2), 5 + 599 % (2 * amplitude + 1) - amplitude);
        }
    }

    @Sentence(in = "Promise 58", says = "Returns the amplitude before that.")
    static void amplitudesBefore() {
        CrateScale x = new CrateScale();
        Check.same("of the setup", x.setAmplitude(50), 4);
        Check.same("the greatest", x.setAmplitude(0), 50);
        Check.same("the least", x.setAmplitude(0), 0);
        x.undo();
        x.undo();
        Check.same("undone", x.setAmplitude(1), 50);
    }

    @Sentence(in = "Promise 58", says = "Throws `IllegalArgumentException` if amplitude is out of range")
    static void amplitudesOutOfRange() {
        refusesArgument("-1", x -> x.setAmplitude(-1));
        refusesArgument("51", x -> x.setAmplitude(51));
        Check.argument("the least int", () -> new CrateScale().setAmplitude(Integer.MIN_VALUE));
        Check.argument("the greatest int", () -> new CrateScale().setAmplitude(Integer.MAX_VALUE));
    }

    @Sentence(in = "Promise 59", says = "`aging`: 1 to 100")
    static void agingsOfOneAndOneHundred() {
        for (int aging : new int[] {1, 2, 99, 100}) {
            CrateScale x = Check.yard("crate a 1 0;noise 0;");
            x.setAging(aging);
            Check.same("the aging", x.aging(), aging);
            Check.run(x, "weigh a50;weigh a50;");
            Check.same("age 100 of " + aging, x.weigh(0), 1 + 100 / aging);
        }
    }

    @Sentence(in = "Promise 59", says = "Returns the aging before that.")
    static void agingsBefore() {
        CrateScale x = new CrateScale();
        Check.same("of the setup", x.setAging(100), 10);
        Check.same("the greatest", x.setAging(1), 100);
        Check.same("the least", x.setAging(1), 1);
        x.undo();
        x.undo();
        Check.same("undone", x.setAging(2), 100);
    }

    @Sentence(in = "Promise 59", says = "Throws `IllegalArgumentException` if aging is out of range")
    static void agingsOutOfRange() {
        refusesArgument("0", x -> x.setAging(0));
        refusesArgument("101", x -> x.setAging(101));
        refusesArgument("-1", x -> x.setAging(-1));
        Check.argument("the least int", () -> new CrateScale().setAging(Integer.MIN_VALUE));
        Check.argument("the greatest int", () -> new CrateScale().setAging(Integer.MAX_VALUE));
    }

    @Sentence(in = "What it is", says = "An object is used for at most 512 calls after it has been made")
    static void theFiveHundredAndTwelfthCall() {
        CrateScale x = new CrateScale();
        Check.weighOften(x, 0, 503);
        for (int left = 7; left >= 0; left--) {
            Check.same("undo", x.undo(), left);
        }
        Check.same("call 512", x.springAge(), 495);
    }
}
