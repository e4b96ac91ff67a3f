/** The boundaries of crates: section 1 of the terms and promises 8 to 19. */
final class YardBounds {
    /** Six crates, each inside the one before it: the last has a depth of 5. */
    static final String DEEP = "crate a 1 0;crate b 1 0 in a;crate c 1 0 in b;crate d 1 0 in c;crate e 1 0 in d;"
        + "crate f 1 0 in e;";

    private YardBounds() {
    }

    @Sentence(in = "Terms 1", says = "The yard has at most 16 crates, indexed from 0 in the order of their creation.")
    static void fifteenAndSixteenCratesAndNoMore() {
        Check.same("15 crates", Check.yard(IndexBounds.crates(15)).crateCount(), 15);
        CrateScale x = IndexBounds.full();
        Check.same("16 crates", x.crateCount(), 16);
        for (int i = 0; i < 16; i++) {
            Check.same("name of crate " + i, x.crateNameByte(i, 0), 'a' + i);
        }
        CrateScale y = new CrateScale();
        Check.same("17 crates", Check.load(y, IndexBounds.crates(17)), CrateScale.NONE);
        Check.same("the yard keeps its 4", y.crateCount(), 4);
    }

    @Sentence(in = "Terms 1", says = "A crate has a name of 1 to 6 lowercase letters")
    static void namesOfOneAndSixLetters() {
        CrateScale x = Check.yard("crate z 1 0;crate zyxcba 1 0;");
        Check.same("one letter", Check.tree(x, 0), "z:1");
        Check.same("six letters", Check.tree(x, 1), "zyxcba:1");
        Check.loadError("crate 7 1 0;", CrateScale.SYNTAX, 6);
        Check.loadError("crate zyxcbaa 1 0;", CrateScale.SYNTAX, 6);
        Check.loadError("crate zyxcbA 1 0;", CrateScale.SYNTAX, 11);
    }

    @Sentence(in = "Terms 1", says = "a tare weight of 1 to 50")
    static void taresOfOneAndFifty() {
        CrateScale x = Check.yard("crate a 1 0;crate b 2 0;crate c 49 0;crate d 50 0;");
        Check.same("tares", x.tareOf(0) + " " + x.tareOf(1) + " " + x.tareOf(2) + " " + x.tareOf(3), "1 2 49 50");
        Check.loadError("crate a 0 0;", CrateScale.OUT_OF_RANGE, 8);
        Check.loadError("crate a 51 0;", CrateScale.OUT_OF_RANGE, 8);
        Check.loadError("crate a 9999 0;", CrateScale.OUT_OF_RANGE, 8);
    }

    @Sentence(in = "Terms 1", says = "a goods weight of 0 to 500")
    static void goodsOfZeroAndFiveHundred() {
        CrateScale x = Check.yard("crate a 1 0;crate b 1 1;crate c 1 499;crate d 1 500;");
        Check.same("goods", x.goodsOf(0) + " " + x.goodsOf(1) + " " + x.goodsOf(2) + " " + x.goodsOf(3), "0 1 499 500");
        Check.loadError("crate a 1 501;", CrateScale.OUT_OF_RANGE, 10);
        Check.loadError("crate a 1 9999;", CrateScale.OUT_OF_RANGE, 10);
    }

    @Sentence(in = "Terms 1", says = "inside exactly one other crate, its parent")
    static void movedCratesHaveOneParentOrNone() {
        CrateScale x = Check.yard("crate a 1 0;crate b 1 0;crate c 1 0 in a;");
        Check.same("holds", x.childCount(0) + " " + x.childCount(1) + " " + x.parentOf(2), "1 0 0");
        x.moveInto(2, 1);
        Check.same("holds after a move", x.childCount(0) + " " + x.childCount(1) + " " + x.parentOf(2), "0 1 1");
        x.moveInto(2, 1);
        Check.same("holds after the same move", x.childCount(0) + " " + x.childCount(1) + " " + x.parentOf(2), "0 1 1");
        x.takeOut(2);
        Check.same("holds after taking out", x.childCount(0) + " " + x.childCount(1) + " " + x.parentOf(2), "0 0 -1");
    }

    @Sentence(in = "Terms 1", says = "ordered by the time at which they were put in")
    static void firstMiddleAndLastChildPutInAnew() {
        CrateScale x = Check.yard("crate a 1 0;crate d 1 0 in a;crate c 1 0 in a;crate b 1 0 in a;");
        Check.same("as in the text", Check.tree(x, 0), "a:4[d:1,c:1,b:1]");
        x.moveInto(3, 0);
        Check.same("the last one stays the last", Check.tree(x, 0), "a:4[d:1,c:1,b:1]");
        x.moveInto(2, 0);
        Check.same("the middle one", Check.tree(x, 0), "a:4[d:1,b:1,c:1]");
        x.moveInto(1, 0);
        Check.same("the first one", Check.tree(x, 0), "a:4[b:1,c:1,d:1]");
        x.takeOut(3);
        x.moveInto(3, 0);
        Check.same("one that was out in between", Check.tree(x, 0), "a:4[c:1,d:1,b:1]");
        for (int i = 0; i < 4; i++) {
            x.undo();
        }
        Check.same("undone up to the first move", Check.tree(x, 0), "a:4[d:1,c:1,b:1]");
        x.moveInto(1, 0);
        Check.same("moved after undo", Check.tree(x, 0), "a:4[c:1,b:1,d:1]");
    }

    @Sentence(in = "Terms 1", says = "The depth is at most 5.")
    static void depthFiveAndNoMore() {
        CrateScale x = Check.yard(DEEP + "crate g 1 0;crate h 1 0 in g;");
        Check.same("the deepest of the text", x.depthOf(5), 5);
        Check.state("below depth 5", () -> x.moveInto(6, 5));
        Check.state("a crate with one inside, below depth 4", () -> x.moveInto(6, 4));
        Check.same("a crate with one inside, below depth 3", x.moveInto(6, 3), 4);
        Check.same("the one inside", x.depthOf(7), 5);
        Check.same("an empty one below depth 4", x.moveInto(7, 4), 5);
        Check.loadError(DEEP + "crate g 1 0 in f;", CrateScale.TOO_DEEP, DEEP.length() + 15);
        Check.same("a sixth in a row", Check.load(x, DEEP + "crate g 1 0 in e;"), 7);
        Check.same("its depth", x.depthOf(6), 5);
    }

    @Sentence(in = "Promise 16", says = "Returns the depth, 0 to 5.")
    static void depthsFromZeroToFive() {
        CrateScale x = Check.yard(DEEP);
        for (int i = 0; i <= 5; i++) {
            Check.same("depth of crate " + i, x.depthOf(i), i);
        }
        x.takeOut(1);
        for (int i = 1; i <= 5; i++) {
            Check.same("depth of crate " + i + " without the outermost", x.depthOf(i), i - 1);
        }
    }

    /** The least gross weight is 1; the greatest is that of all sixteen crates, in a wide tree as in a deep one. */
    @Sentence(in = "Promise 14", says = "Returns the gross weight of a crate.")
    static void leastAndGreatestGrossWeight() {
        Check.same("the least", Check.yard("crate a 1 0;").grossOf(0), 1);
        StringBuilder wide = new StringBuilder("crate a 50 500;");
        StringBuilder deep = new StringBuilder("crate a 50 500;");
        for (int i = 1; i < 16; i++) {
            wide.append("crate ").append((char) ('a' + i)).append(" 50 500 in a;");
            char outer = (char) (i <= 5 ? 'a' + i - 1 : 'e');
            deep.append("crate ").append((char) ('a' + i)).append(" 50 500 in ").append(outer).append(';');
        }
        Check.same("sixteen in a wide tree", Check.yard(wide.toString()).grossOf(0), 8800);
        CrateScale x = Check.yard(deep.toString());
        Check.same("sixteen in a deep tree", x.grossOf(0), 8800);
        Check.same("the last but one level", x.grossOf(4), 12 * 550);
        Check.same("the last level", x.grossOf(5), 550);
        x.takeOut(1);
        Check.same("what is left of the outermost", x.grossOf(0), 550);
        Check.same("what was taken out", x.grossOf(1), 15 * 550);
    }

    @Sentence(in = "Terms 1", says = "A crate that was sold leaves the yard together with everything inside it.")
    static void allLevelsLeaveAndNeighboursStay() {
        CrateScale x = Check.yard(DEEP + "crate g 1 0;buyer p 99 50 50;noise 0;readings 1;");
        x.weigh(0);
        x.sell(0, 0);
        for (int i = 0; i <= 5; i++) {
            Check.isTrue("crate " + i + " left", !x.isInYard(i));
        }
        Check.isTrue("the neighbour stays", x.isInYard(6));
        x.weigh(6);
        x.sell(6, 0);
        Check.isTrue("a crate with nothing inside it left", !x.isInYard(6));
        Check.state("nothing is left to be weighed", () -> x.weigh(6));
    }

    @Sentence(in = "Terms 1", says = "Crates that left the yard keep their indexes, weights and readings.")
    static void soldCratesKeepWhatTheyHave() {
        CrateScale x = Check.yard("crate a 3 4;crate b 5 6 in a;crate c 1 0;buyer p 99 50 50;noise 0;readings 1;");
        x.weigh(1);
        Check.weighOften(x, 0, 3);
        x.sell(0, 0);
        x.addGoods(2, 500);
        x.replaceSpring();
        Check.same("crates", x.crateCount(), 3);
        Check.same("the outer one", x.tareOf(0) + " " + x.goodsOf(0) + " " + x.grossOf(0) + " " + x.readingCount(0) + " "
            + x.lastReading(0), "3 4 18 3 18");
        Check.same("the inner one", x.tareOf(1) + " " + x.goodsOf(1) + " " + x.grossOf(1) + " " + x.readingCount(1) + " "
            + x.lastReading(1), "5 6 11 1 11");
        Check.same("the tree", Check.tree(x, 0), "a:18[b:11]");
        Check.same("the index of the last", x.crateNameByte(2, 0), (int) 'c');
    }

    @Sentence(in = "Promise 8", says = "including crates that left the yard")
    static void allCratesLeft() {
        CrateScale x = Check.yard("crate a 1 0;buyer p 9 0 0;noise 0;readings 1;");
        Check.same("one", x.crateCount(), 1);
        x.weigh(0);
        x.sell(0, 0);
        Check.same("one, though it left", x.crateCount(), 1);
    }

    @Sentence(in = "Promise 10", says = "index of the letter, from 0")
    static void firstAndLastLetterOfACrate() {
        CrateScale x = Check.yard("crate abcdez 1 0;");
        Check.same("the first", x.crateNameByte(0, 0), 97);
        Check.same("the last", x.crateNameByte(0, 5), 122);
    }

    @Sentence(in = "Promise 10", says = "NONE if there is no such letter")
    static void lettersOutsideOfACratesName() {
        CrateScale x = Check.yard("crate a 1 0;crate abcdef 1 0;");
        for (int index : new int[] {-1, 1, 2, 5, 6, 32, Integer.MIN_VALUE, Integer.MAX_VALUE}) {
            Check.same("letter " + index + " of a", x.crateNameByte(0, index), CrateScale.NONE);
        }
        for (int index : new int[] {-1, 6, 7, 8, 31, 32, Integer.MIN_VALUE, Integer.MAX_VALUE}) {
            Check.same("letter " + index + " of abcdef", x.crateNameByte(1, index), CrateScale.NONE);
        }
    }

    @Sentence(in = "Promise 11", says = "index of the letter, from 0")
    static void firstAndLastLetterOfABuyer() {
        CrateScale x = Check.yard("crate a 1 0;buyer zbcdea 0 0 0;");
        Check.same("the first", x.buyerNameByte(0, 0), 122);
        Check.same("the last", x.buyerNameByte(0, 5), 97);
    }

    @Sentence(in = "Promise 11", says = "NONE if there is no such letter")
    static void lettersOutsideOfABuyersName() {
        CrateScale x = Check.yard("crate abcdef 1 0;buyer a 0 0 0;buyer abcdef 0 0 0;");
        for (int index : new int[] {-1, 1, 2, 5, 6, 32, Integer.MIN_VALUE, Integer.MAX_VALUE}) {
            Check.same("letter " + index + " of a", x.buyerNameByte(0, index), CrateScale.NONE);
        }
        for (int index : new int[] {-1, 6, 7, 8, 31, 32, Integer.MIN_VALUE, Integer.MAX_VALUE}) {
            Check.same("letter " + index + " of abcdef", x.buyerNameByte(1, index), CrateScale.NONE);
        }
    }

    @Sentence(in = "Promise 13", says = "without the crates inside it")
    static void goodsOfAnEmptyCrateAroundAFullOne() {
        CrateScale x = Check.yard("crate a 1 0;crate b 50 500 in a;");
        Check.same("the outer one", x.goodsOf(0), 0);
        x.addGoods(0, 500);
        Check.same("the outer one, full", x.goodsOf(0), 500);
        Check.same("the inner one", x.goodsOf(1), 500);
    }

    @Sentence(in = "Promise 15", says = "NONE for a top-level crate")
    static void parentZeroAndNone() {
        CrateScale x = Check.yard("crate a 1 0;crate b 1 0 in a;");
        Check.same("a top-level crate", x.parentOf(0), CrateScale.NONE);
        Check.same("inside crate 0", x.parentOf(1), 0);
        x.takeOut(1);
        Check.same("taken out", x.parentOf(1), CrateScale.NONE);
        x.moveInto(0, 1);
        Check.same("inside crate 1", x.parentOf(0), 1);
    }

    @Sentence(in = "Promise 17", says = "Returns the number of children.")
    static void noneToFifteenChildren() {
        CrateScale x = IndexBounds.full();
        for (int i = 0; i < 15; i++) {
            Check.same("children", x.childCount(15), i);
            x.moveInto(i, 15);
        }
        Check.same("all others are children", x.childCount(15), 15);
        Check.same("the last child", x.childOf(15, 14), 14);
        Check.same("behind the last child", x.childOf(15, 15), CrateScale.NONE);
    }

    @Sentence(in = "Promise 18", says = "position among the children, from 0")
    static void firstAndLastChild() {
        CrateScale x = Check.yard("crate a 1 0;crate b 1 0 in a;crate c 1 0 in b;crate d 1 0 in a;");
        Check.same("the first", x.childOf(0, 0), 1);
        Check.same("the last", x.childOf(0, 1), 3);
        Check.same("the only one", x.childOf(1, 0), 2);
    }

    @Sentence(in = "Promise 18", says = "NONE if there is no such position")
    static void positionsOutsideOfTheChildren() {
        CrateScale x = Check.yard("crate a 1 0;crate b 1 0 in a;crate c 1 0 in b;crate d 1 0 in a;");
        for (int index : new int[] {-1, 2, 3, Integer.MIN_VALUE, Integer.MAX_VALUE}) {
            Check.same("position " + index + " of two", x.childOf(0, index), CrateScale.NONE);
        }
        for (int index : new int[] {-1, 0, 1}) {
            Check.same("position " + index + " of none", x.childOf(2, index), CrateScale.NONE);
        }
    }

    @Sentence(in = "Promise 19", says = "Returns true unless the crate, or a crate that contains it, was sold.")
    static void inYardAtEachLevel() {
        CrateScale x = Check.yard(DEEP + "buyer p 99 50 50;noise 0;readings 1;");
        x.takeOut(2);
        x.weigh(2);
        x.sell(2, 0);
        for (int i = 0; i <= 5; i++) {
            Check.same("crate " + i, x.isInYard(i), i < 2);
        }
        x.undo();
        for (int i = 0; i <= 5; i++) {
            Check.isTrue("crate " + i + " is back", x.isInYard(i));
        }
    }
}
