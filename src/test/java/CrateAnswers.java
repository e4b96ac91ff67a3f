/** What crates answer: section 1 of the terms and promises 8 to 28, each crate asked for itself. */
final class CrateAnswers {
    private CrateAnswers() {
    }

    @Sentence(in = "What it is", says = {"A simulator of a yard with one spring scale: a tree of crates, noisy readings from a linear "
        + "congruential generator, running means, a spring that sags with use, and buyers whose trust depends on the error of the mean."})
    static void aDayInTheYard() {
        CrateScale x = new CrateScale();
        Check.same("a tree of crates", Check.tree(x, 0), "apple:50[pear:27[fig:10]]");
        Check.same("(75 * 7 + 74) mod 9 - 4 is 1", x.weigh(0), 50 + 1);
        Check.same("the second of the pair", x.weigh(0), 50 - 1);
        Check.same("(75 * 599 + 74) mod 9 - 4 is 4", x.weigh(0), 50 + 4);
        Check.same("the mean of 51, 49 and 54", x.meanReading(0), 51);
        x.setAmplitude(0);
        Check.weighOften(x, 2, 7);
        Check.same("the sag after ten readings", x.springSag(), 1);
        Check.same("the second of the pair, with the sag", x.weigh(0), 50 - 4 + 1);
        Check.weighOften(x, 2, 9);
        Check.same("no noise, and a sag of 2", x.weigh(0), 50 + 2);
        Check.same("the mean of 51, 49, 54, 47 and 52", x.meanReading(0), 51);
        Check.same("amy tolerates 3", x.trustAfterSale(0, 0), 55);
        Check.same("ben tolerates 1", x.trustAfterSale(0, 1), 85);
        Check.same("a sag of 2", x.weigh(0), 50 + 2);
        Check.weighOften(x, 2, 30);
        Check.weighOften(x, 0, 4);
        Check.same("a mean of 525 / 10", x.meanReading(0), 53);
        Check.same("an error of 3 is within amy's tolerance", x.trustAfterSale(0, 0), 55);
        Check.same("it is 2 beyond ben's", x.trustAfterSale(0, 1), 78);
    }

    @Sentence(in = "Terms 1", says = {"The ancestors of a crate are its parent, the parent of its parent, and so on.",
        "The depth of a crate is the number of its ancestors."})
    static void ancestorsUpToTheOutermost() {
        for (int c = 0; c < 16; c++) {
            CrateScale x = FullYard.weighed();
            int before = x.totalDiscarded();
            StringBuilder lost = new StringBuilder();
            x.addGoods(c, 1);
            int ancestors = 0;
            int due = x.readingCount(c) + c % 3 + 1;
            for (int outer = x.parentOf(c); outer != CrateScale.NONE; outer = x.parentOf(outer)) {
                ancestors++;
                due += outer % 3 + 1;
                lost.append(x.readingCount(outer));
            }
            Check.same("depth of crate " + c, x.depthOf(c), ancestors);
            Check.same("readings left in the ancestors of " + c, lost.toString(), "0".repeat(ancestors));
            Check.same("discarded in crate " + c + " and its ancestors alone", x.totalDiscarded() - before, due);
        }
    }

    @Sentence(in = "Terms 1", says = "The gross weight of a crate is its tare weight plus its goods weight plus the gross weights of "
        + "its children.")
    static void grossWeightsOfAllLevels() {
        CrateScale x = FullYard.made();
        grossIsTareGoodsAndChildren(x, "as loaded");
        x.addGoods(9, 400);
        x.removeGoods(4, 50);
        x.moveInto(12, 7);
        grossIsTareGoodsAndChildren(x, "with other goods");
        x.takeOut(6);
        x.moveInto(4, 15);
        grossIsTareGoodsAndChildren(x, "after moves");
    }

    private static void grossIsTareGoodsAndChildren(CrateScale x, String what) {
        for (int c = 0; c < 16; c++) {
            int gross = x.tareOf(c) + x.goodsOf(c);
            for (int i = 0, child = x.childOf(c, 0); child != CrateScale.NONE; child = x.childOf(c, ++i)) {
                gross += x.grossOf(child);
            }
            Check.same("gross of crate " + c + " " + what, x.grossOf(c), gross);
        }
    }

    @Sentence(in = "Promise 8", says = {"Returns the number of crates."})
    static void cratesAreCounted() {
        Check.same("sixteen", FullYard.made().crateCount(), 16);
        Check.same("three", Check.yard("crate a 1 0;crate b 1 0 in a;crate c 1 0 in b;buyer a 1 1 1;").crateCount(), 3);
    }

    @Sentence(in = "Promise 9", says = {"Returns the number of buyers."})
    static void buyersAreCounted() {
        Check.same("six", FullYard.made().buyerCount(), 6);
        Check.same("one", Check.yard("crate a 1 0;crate b 1 0 in a;crate c 1 0 in b;buyer a 1 1 1;").buyerCount(), 1);
    }

    @Sentence(in = "Promise 10", says = {"Returns a letter of the name of a crate.", "- `crate`: index of a crate"})
    static void lettersOfEachCrate() {
        CrateScale x = FullYard.made();
        for (int c = 0; c < 16; c++) {
            for (int i = 0; i < FullYard.CRATES[c].length(); i++) {
                Check.same("letter " + i + " of crate " + c, x.crateNameByte(c, i), (int) FullYard.CRATES[c].charAt(i));
            }
        }
    }

    @Sentence(in = "Promise 11", says = {"Returns a letter of the name of a buyer.", "- `buyer`: index of a buyer"})
    static void lettersOfEachBuyer() {
        CrateScale x = FullYard.made();
        for (int b = 0; b < 6; b++) {
            for (int i = 0; i < FullYard.BUYERS[b].length(); i++) {
                Check.same("letter " + i + " of buyer " + b, x.buyerNameByte(b, i), (int) FullYard.BUYERS[b].charAt(i));
            }
        }
    }

    @Sentence(in = "Promise 12", says = {"Returns the tare weight of a crate.", "- `crate`: index of a crate", "Returns the tare weight."})
    static void taresOfEachCrate() {
        CrateScale x = FullYard.made();
        Check.same("tares", FullYard.ofCrates(x::tareOf), FullYard.TARES);
        x.addGoods(3, 5);
        x.moveInto(12, 13);
        x.weigh(0);
        Check.same("nothing alters a tare", FullYard.ofCrates(x::tareOf), FullYard.TARES);
    }

    @Sentence(in = "Promise 13", says = {"- `crate`: index of a crate", "Returns the goods weight."})
    static void goodsOfEachCrate() {
        CrateScale x = FullYard.made();
        Check.same("goods", FullYard.ofCrates(x::goodsOf), FullYard.GOODS);
        x.moveInto(12, 13);
        x.takeOut(9);
        Check.same("moves do not alter goods", FullYard.ofCrates(x::goodsOf), FullYard.GOODS);
        x.addGoods(9, 400);
        x.removeGoods(0, 10);
        Check.same("y has more, a has none", FullYard.ofCrates(x::goodsOf),
            "0 20 30 40 50 60 70 80 90 500 110 120 130 140 150 160");
    }

    @Sentence(in = "Promise 14", says = {"- `crate`: index of a crate", "Returns the gross weight."})
    static void grossOfEachCrate() {
        CrateScale x = FullYard.made();
        Check.same("gross", FullYard.ofCrates(x::grossOf), FullYard.WEIGHTS);
        x.addGoods(9, 1);
        x.moveInto(14, 2);
        Check.same("y heavier, o moved", FullYard.ofCrates(x::grossOf),
            "275 220 198 44 749 441 375 298 210 111 121 132 143 154 165 176");
    }

    @Sentence(in = "Promise 15", says = {"Returns the parent of a crate.", "- `crate`: index of a crate"})
    static void parentsOfEachCrate() {
        CrateScale x = FullYard.made();
        Check.same("parents", FullYard.ofCrates(x::parentOf), FullYard.PARENTS);
        x.moveInto(14, 2);
        x.takeOut(6);
        Check.same("o in def, v taken out", FullYard.ofCrates(x::parentOf), "-1 0 1 0 -1 4 -1 6 7 8 4 4 -1 -1 2 -1");
    }

    @Sentence(in = "Promise 16", says = {"Returns the depth of a crate.", "- `crate`: index of a crate"})
    static void depthsOfEachCrate() {
        CrateScale x = FullYard.made();
        Check.same("depths", FullYard.ofCrates(x::depthOf), FullYard.DEPTHS);
        x.moveInto(14, 2);
        x.takeOut(6);
        Check.same("o in def, v taken out", FullYard.ofCrates(x::depthOf), "0 1 2 1 0 1 0 1 2 3 1 1 0 0 3 0");
    }

    @Sentence(in = "Promise 17", says = {"Returns the number of children of a crate.", "- `crate`: index of a crate"})
    static void childrenOfEachCrate() {
        CrateScale x = FullYard.made();
        Check.same("children", FullYard.ofCrates(x::childCount), "2 1 0 0 3 1 1 1 1 0 0 0 0 1 0 0");
        x.moveInto(14, 4);
        x.takeOut(6);
        Check.same("o in klmno, v taken out", FullYard.ofCrates(x::childCount), "2 1 0 0 4 0 1 1 1 0 0 0 0 0 0 0");
    }

    @Sentence(in = "Promise 18", says = {"Returns a child of a crate.", "- `crate`: index of a crate"})
    static void childOfEachCrate() {
        CrateScale x = FullYard.made();
        Check.same("first children", FullYard.ofCrates(c -> x.childOf(c, 0)), "1 2 -1 -1 5 6 7 8 9 -1 -1 -1 -1 14 -1 -1");
        Check.same("second children", FullYard.ofCrates(c -> x.childOf(c, 1)), "3 -1 -1 -1 10 -1 -1 -1 -1 -1 -1 -1 -1 -1 -1 -1");
        Check.same("third children", FullYard.ofCrates(c -> x.childOf(c, 2)), "-1 -1 -1 -1 11 -1 -1 -1 -1 -1 -1 -1 -1 -1 -1 -1");
        x.moveInto(14, 4);
        Check.same("a fourth child", x.childOf(4, 3), 14);
        Check.same("none left in n", x.childOf(13, 0), CrateScale.NONE);
    }

    @Sentence(in = "Promise 19", says = {"Tells whether a crate is in the yard.", "- `crate`: index of a crate"})
    static void yardOfEachCrate() {
        CrateScale x = FullYard.made();
        Check.same("all are in it", FullYard.ofCrates(x::isInYard).replace("true", "+"), "+ + + + + + + + + + + + + + + +");
        Check.weighOften(x, 13, 4);
        x.sell(13, 1);
        Check.same("n left with o", FullYard.ofCrates(x::isInYard).replace("true", "+").replace("false", "-"),
            "+ + + + + + + + + + + + + - - +");
        Check.weighOften(x, 4, 4);
        x.sell(4, 1);
        Check.same("klmno left with all inside", FullYard.ofCrates(x::isInYard).replace("true", "+").replace("false", "-"),
            "+ + + + - - - - - - - - + - - +");
    }

    @Sentence(in = "Promise 20", says = {"- `crate`: index of a crate", "Returns the number of readings."})
    static void readingsOfEachCrate() {
        CrateScale x = FullYard.weighed();
        Check.same("readings", FullYard.ofCrates(x::readingCount), "1 2 3 1 2 3 1 2 3 1 2 3 1 2 3 1");
        x.addGoods(8, 1);
        Check.same("without those of x and its ancestors", FullYard.ofCrates(x::readingCount), "1 2 3 1 0 0 0 0 0 1 2 3 1 2 3 1");
    }

    @Sentence(in = "Promise 21", says = {"- `crate`: index of a crate", "Returns the reading."})
    static void lastReadingOfEachCrate() {
        CrateScale x = FullYard.weighed();
        Check.same("latest readings", FullYard.ofCrates(x::lastReading),
            "110 57 38 50 756 451 386 311 226 128 141 155 167 345 194 206");
    }

    @Sentence(in = "Promise 22", says = {"- `crate`: index of a crate"})
    static void meanReadingOfEachCrate() {
        CrateScale x = FullYard.weighed();
        Check.same("mean readings", FullYard.ofCrates(x::meanReading),
            "110 57 37 50 756 450 386 311 225 128 141 154 167 345 193 206");
    }

    @Sentence(in = "Promise 23", says = {"Returns the error of the mean reading of a crate.", "- `crate`: index of a crate",
        "Returns the mean reading minus the gross weight."})
    static void meanErrorOfEachCrate() {
        CrateScale x = FullYard.weighed();
        Check.same("errors", FullYard.ofCrates(x::meanError), "0 2 4 6 8 10 12 14 16 18 20 22 24 26 28 30");
        CrateScale low = Check.yard("crate a 10 20;noise 50;seed 9999;");
        low.weigh(0);
        Check.same("a mean below the weight", low.meanError(0), -46);
    }

    @Sentence(in = "Promise 24", says = {"- `crate`: index of a crate",
        "Returns the sum of the readings converted to double, divided by their number converted to double."})
    static void exactMeanOfEachCrate() {
        CrateScale x = FullYard.weighed();
        Check.same("exact means", FullYard.ofCrates(x::exactMean), "110.0 56.5 37.0 50.0 755.5 450.0 386.0 310.5 225.0 128.0 "
            + "140.5 154.0 167.0 344.5 193.0 206.0");
        x.weigh(1);
        Check.same("56, 57 and 86 are no third of a float", x.exactMean(1), 199.0 / 3.0);
        x.weigh(1);
        Check.same("nor is the mean rounded at a quarter", x.exactMean(1), 286.0 / 4.0);
    }

    @Sentence(in = "Promise 25", says = "Returns the age of the spring.")
    static void agesUpToThirtyOne() {
        CrateScale x = FullYard.weighed();
        Check.same("31 readings", x.springAge(), 31);
        x.weigh(9);
        Check.same("32 readings", x.springAge(), 32);
    }

    @Sentence(in = "Promise 26", says = "Returns the sag of the spring.")
    static void sagsOfThirtyOne() {
        CrateScale x = FullYard.weighed();
        Check.same("31 by 1", x.springSag(), 31);
        x.setAging(8);
        Check.same("31 by 8", x.springSag(), 3);
        x.weigh(9);
        Check.same("32 by 8", x.springSag(), 4);
    }

    @Sentence(in = "Promise 27", says = "Returns the amplitude of the noise.")
    static void amplitudesGivenAndSet() {
        CrateScale x = FullYard.made();
        Check.same("given", x.amplitude(), 3);
        x.setAmplitude(17);
        Check.same("set", x.amplitude(), 17);
        Check.run(x, "noise 18;");
        Check.same("set by a script", x.amplitude(), 18);
    }

    @Sentence(in = "Promise 28", says = "Returns the aging of the spring.")
    static void agingsGivenAndSet() {
        CrateScale x = FullYard.made();
        Check.same("given", x.aging(), 4);
        x.setAging(17);
        Check.same("set", x.aging(), 17);
        Check.run(x, "aging 18;");
        Check.same("set by a script", x.aging(), 18);
    }
}
