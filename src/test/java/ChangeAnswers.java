/** What changes do and answer: promises 51 to 62, each crate and buyer changed for itself. */
final class ChangeAnswers {
    private static final int TOP_AND_EMPTY = 12;

    private ChangeAnswers() {
    }

    private static int number(String row, int index) {
        return Integer.parseInt(row.split(" ")[index]);
    }

    /** The change is undone, and with it all that it did. */
    private static void undoes(CrateScale x, CrateScale asBefore, String what) {
        Check.isTrue("something can be undone after " + what, x.undo() >= 0);
        Check.same("undone: " + what, Check.view(x), Check.view(asBefore));
    }

    @Sentence(in = "Promise 51", says = {"Takes a reading of a crate.", "This is a change.", "- `crate`: index of a crate",
        "Returns the reading."})
    static void oneReadingOfEachCrate() {
        CrateScale x = FullYard.made();
        x.setAmplitude(0);
        String due = "110 55 33 44 749 441 375 298 211 112 123 134 146 322 168 179";
        Check.same("readings", FullYard.ofCrates(x::weigh), due);
        Check.same("stored", FullYard.ofCrates(x::readingCount), "1 1 1 1 1 1 1 1 1 1 1 1 1 1 1 1");
        Check.same("latest", FullYard.ofCrates(x::lastReading), due);
        x.undo();
        Check.same("undone", FullYard.ofCrates(x::readingCount), "1 1 1 1 1 1 1 1 1 1 1 1 1 1 1 0");
        Check.same("age", x.springAge(), 15);
        CrateScale y = FullYard.weighed();
        Check.same("noise 0 and a sag of 31", y.weigh(9), 110 + 31);
        undoes(y, FullYard.weighed(), "weigh");
    }

    @Sentence(in = "Promise 52", says = {"Adds goods to a crate.", "This is a change.", "- `crate`: index of a crate",
        "Returns the gross weight of the crate after that."})
    static void goodsAddedToEachCrate() {
        for (int c = 0; c < 16; c++) {
            CrateScale x = FullYard.made();
            int goods = number(FullYard.GOODS, c);
            Check.same("gross of crate " + c, x.addGoods(c, c + 1), number(FullYard.WEIGHTS, c) + c + 1);
            Check.same("goods of crate " + c, x.goodsOf(c), goods + c + 1);
            Check.same("gross asked", x.grossOf(c), number(FullYard.WEIGHTS, c) + c + 1);
            x.undo();
            Check.same("undone", FullYard.ofCrates(x::goodsOf), FullYard.GOODS);
            Check.same("gross undone", FullYard.ofCrates(x::grossOf), FullYard.WEIGHTS);
        }
        CrateScale y = FullYard.weighed();
        y.addGoods(9, 4);
        Check.same("the others keep theirs", FullYard.ofCrates(y::goodsOf), FullYard.GOODS.replace("100", "104"));
        undoes(y, FullYard.weighed(), "addGoods");
    }

    @Sentence(in = "Promise 53", says = {"Removes goods from a crate.", "This is a change.", "- `crate`: index of a crate",
        "Returns the gross weight of the crate after that."})
    static void goodsRemovedFromEachCrate() {
        for (int c = 0; c < 16; c++) {
            CrateScale x = FullYard.made();
            int goods = number(FullYard.GOODS, c);
            Check.same("gross of crate " + c, x.removeGoods(c, goods - c), number(FullYard.WEIGHTS, c) - goods + c);
            Check.same("goods of crate " + c, x.goodsOf(c), c);
            Check.same("gross asked", x.grossOf(c), number(FullYard.WEIGHTS, c) - goods + c);
            x.undo();
            Check.same("undone", FullYard.ofCrates(x::goodsOf), FullYard.GOODS);
            Check.same("gross undone", FullYard.ofCrates(x::grossOf), FullYard.WEIGHTS);
        }
        CrateScale y = FullYard.weighed();
        y.removeGoods(9, 4);
        Check.same("the others keep theirs", FullYard.ofCrates(y::goodsOf), FullYard.GOODS.replace("100", "96"));
        undoes(y, FullYard.weighed(), "removeGoods");
    }

    /** klmno has too much inside it to go anywhere, and nothing goes into y, which is as deep as can be. */
    @Sentence(in = "Promise 54", says = {"- `crate`: index of a crate", "- `outer`: index of the new parent",
        "Returns the depth of the crate after that."})
    static void movesOfEachCrateAndIntoEach() {
        for (int c = 0; c < 16; c++) {
            if (c != TOP_AND_EMPTY && c != 4) {
                CrateScale x = FullYard.made();
                Check.same("depth of crate " + c, x.moveInto(c, TOP_AND_EMPTY), 1);
                Check.same("parent of crate " + c, x.parentOf(c), TOP_AND_EMPTY);
                Check.same("only child", x.childOf(TOP_AND_EMPTY, 0) + " " + x.childCount(TOP_AND_EMPTY), c + " 1");
            }
            if (c != TOP_AND_EMPTY && c != 9) {
                CrateScale x = FullYard.made();
                Check.same("depth in crate " + c, x.moveInto(TOP_AND_EMPTY, c), number(FullYard.DEPTHS, c) + 1);
                Check.same("parent " + c, x.parentOf(TOP_AND_EMPTY), c);
                Check.same("last child of " + c, x.childOf(c, x.childCount(c) - 1), TOP_AND_EMPTY);
                Check.same("gross of " + c, x.grossOf(c), number(FullYard.WEIGHTS, c) + 143);
            }
        }
        CrateScale y = FullYard.weighed();
        y.moveInto(6, 14);
        undoes(y, FullYard.weighed(), "moveInto");
    }

    @Sentence(in = "Promise 55", says = {"Takes a crate out of its parent, so that it becomes a top-level crate.", "This is a change.",
        "- `crate`: index of a crate", "Returns the gross weight of the former parent after that."})
    static void eachCrateTakenOut() {
        String due = "- 55 22 66 - 308 66 77 88 99 627 616 - - 154 -";
        Check.same("gross of the former parents", FullYard.ofCrates(ChangeAnswers::grossWithout), due);
        for (int c = 0; c < 16; c++) {
            if (number(FullYard.PARENTS, c) != CrateScale.NONE) {
                CrateScale x = FullYard.made();
                int former = x.parentOf(c);
                int children = x.childCount(former);
                int gross = x.takeOut(c);
                Check.same("gross asked", x.grossOf(former), gross);
                Check.same("crate " + c + " is a top-level crate", x.parentOf(c) + " " + x.depthOf(c), "-1 0");
                Check.same("it is in the yard", x.isInYard(c), true);
                Check.same("children left", x.childCount(former), children - 1);
            }
        }
        CrateScale y = FullYard.weighed();
        y.takeOut(6);
        undoes(y, FullYard.weighed(), "takeOut");
    }

    private static Object grossWithout(int crate) {
        CrateScale x = FullYard.made();
        return x.parentOf(crate) == CrateScale.NONE ? "-" : x.takeOut(crate);
    }

    @Sentence(in = "Promise 56", says = {"This is a change.", "Returns the age of the former spring."})
    static void springsOfSomeAges() {
        CrateScale x = FullYard.weighed();
        Check.same("31 readings", x.replaceSpring(), 31);
        undoes(x, FullYard.weighed(), "replaceSpring");
        x.replaceSpring();
        Check.same("none", x.replaceSpring(), 0);
        x.weigh(9);
        Check.same("one", x.replaceSpring(), 1);
    }

    @Sentence(in = "Promise 57", says = {"Sells a crate to a buyer.", "This is a change.", "- `crate`: index of a crate",
        "- `buyer`: index of a buyer"})
    static void oneCrateSoldToOneBuyer() {
        CrateScale x = FullYard.weighed();
        Check.same("a price of 345 and a refund of 26", x.sell(13, 3), 319);
        Check.same("n and o left", FullYard.ofCrates(c -> x.isInYard(c) ? "+" : "-"), "+ + + + + + + + + + + + + - - +");
        Check.same("money", FullYard.ofBuyers(x::moneyOf), "100 9999 300 81 160 0");
        Check.same("trust", FullYard.ofBuyers(x::trustOf), "10 20 40 18 50 60");
        Check.same("purchases", FullYard.ofBuyers(x::purchasesOf), "0 0 0 1 0 0");
        Check.same("totals", x.salesCount() + " " + x.totalPrices() + " " + x.totalRefunds(), "1 345 26");
        undoes(x, FullYard.weighed(), "sell");
        Check.same("a for 110", x.sell(0, 4), 110);
        Check.same("zabcd has 50 left", FullYard.ofBuyers(x::moneyOf), "100 9999 300 400 50 0");
    }

    @Sentence(in = "Promise 58", says = {"Sets the amplitude of the noise.", "This is a change."})
    static void amplitudeOfTheNextNoise() {
        CrateScale x = FullYard.made();
        x.setAmplitude(50);
        Check.same("amplitude", x.amplitude(), 50);
        Check.same("599 mod 101 - 50", x.predictReading(2), 33 + 44);
        x.setAmplitude(1);
        Check.same("599 mod 3 - 1", x.predictReading(2), 33 + 1);
        x.undo();
        undoes(x, FullYard.made(), "setAmplitude");
    }

    @Sentence(in = "Promise 59", says = {"Sets the aging of the spring.", "This is a change."})
    static void agingOfTheNextSag() {
        CrateScale x = FullYard.weighed();
        x.setAging(10);
        Check.same("aging", x.aging(), 10);
        Check.same("31 by 10", x.springSag(), 3);
        Check.same("a reading with it", x.predictReading(9), 110 + 3);
        x.setAging(100);
        Check.same("31 by 100", x.springSag(), 0);
        x.undo();
        undoes(x, FullYard.weighed(), "setAging");
    }

    @Sentence(in = "Promise 61", says = {"- `crate`: index of a crate", "Returns the number of bytes written."})
    static void treeOfEachCrate() {
        String inside = "pqrstu:440[v:374[w:297[x:209[y:110]]]]";
        String[] due = {"a:110[bc:55[def:33],ghij:44]", "bc:55[def:33]", "def:33", "ghij:44", "klmno:748[" + inside + ",z:121,za:132]",
            inside, "v:374[w:297[x:209[y:110]]]", "w:297[x:209[y:110]]", "x:209[y:110]", "y:110", "z:121", "za:132", "m:143",
            "n:319[o:165]", "o:165", "zyxwvu:176"};
        for (int c = 0; c < 16; c++) {
            CrateScale x = FullYard.made();
            Check.same("bytes of crate " + c, x.writeTree(c), due[c].length());
            Check.same("tree of crate " + c, Check.output(x), due[c]);
        }
    }

    @Sentence(in = "Promise 62", says = "Returns a byte of the output.")
    static void eachByteOfATree() {
        CrateScale x = FullYard.made();
        x.writeTree(13);
        int[] due = {110, 58, 51, 49, 57, 91, 111, 58, 49, 54, 53, 93};
        for (int i = 0; i < due.length; i++) {
            Check.same("byte " + i, x.outputByte(i), due[i]);
        }
    }
}
