/** Promises 51 to 60: the changes and undo. */
final class ChangePromises {
    private ChangePromises() {
    }

    static void promise51() {
        CrateScale x = new CrateScale();
        Check.same("seed 7: 599 mod 9 - 4", x.weigh(0), 50 + 1);
        Check.same("another crate begins its own pair: 44999 mod 9 - 4", x.weigh(2), 5 + 4);
        x.setAmplitude(0);
        Check.same("the second of apple", x.weigh(0), 50 - 1);
        Check.same("the second of plum", x.weigh(2), 5 - 4);
        x.setAmplitude(4);
        x.weigh(3);
        x.addGoods(3, 1);
        Check.same("a discarded pair begins anew: 21105 mod 9 - 4", x.weigh(3), 11 - 4);
        x.setAging(1);
        Check.same("the sag of 6 readings", x.weigh(3), 11 + 4 + 6);
        Check.same("the greatest amplitude", x.setAmplitude(50), 4);
        Check.same("10061 mod 101 - 50", x.weigh(3), 11 + 12 + 7);
        Check.same("undo", x.undo(), 7);
        Check.same("the generator goes back, too", x.weigh(3), 11 + 12 + 7);
        Check.weighOften(x, 0, 2);
        x.sell(0, 1);
        Check.state("sold", () -> x.weigh(0));
        Check.state("inside a sold one", () -> x.weigh(3));
        Check.range("crate 4", () -> x.weigh(4));
        Check.range("crate -1", () -> x.weigh(-1));
        CrateScale y = Check.yard("crate a 1 0;crate b 1 0;noise 50;seed 9999;");
        Check.same("below 0", y.weigh(0), 1 - 46);
    }

    private static CrateScale sold() {
        CrateScale x = new CrateScale();
        Check.weighOften(x, 0, 2);
        x.sell(0, 1);
        return x;
    }

    static void promise52() {
        CrateScale x = new CrateScale();
        Check.same("fig", x.addGoods(3, 1), 11);
        Check.same("apple", x.grossOf(0), 51);
        Check.same("up to 500", x.addGoods(2, 500), 505);
        Check.state("501", () -> x.addGoods(2, 1));
        Check.argument("0", () -> x.addGoods(3, 0));
        Check.argument("501", () -> x.addGoods(3, 501));
        Check.argument("-1", () -> x.addGoods(3, -1));
        Check.argument("the greatest int", () -> x.addGoods(2, Integer.MAX_VALUE));
        Check.range("crate 4 and weight 0", () -> x.addGoods(4, 0));
        Check.range("crate -1", () -> x.addGoods(-1, 1));
        CrateScale y = sold();
        Check.state("sold", () -> y.addGoods(0, 1));
        Check.state("inside a sold one", () -> y.addGoods(3, 1));
        Check.argument("501 for a sold one", () -> y.addGoods(0, 501));
        Check.same("refused ones are no changes", x.undo(), 1);
    }

    static void promise53() {
        CrateScale x = new CrateScale();
        Check.same("fig", x.removeGoods(3, 1), 9);
        Check.same("apple", x.grossOf(0), 49);
        Check.same("down to 0", x.removeGoods(0, 20), 29);
        Check.state("below 0", () -> x.removeGoods(0, 1));
        Check.state("plum is empty", () -> x.removeGoods(2, 500));
        Check.argument("0", () -> x.removeGoods(3, 0));
        Check.argument("501", () -> x.removeGoods(3, 501));
        Check.argument("the least int", () -> x.removeGoods(3, Integer.MIN_VALUE));
        Check.range("crate 4 and weight 0", () -> x.removeGoods(4, 0));
        Check.range("crate -1", () -> x.removeGoods(-1, 1));
        CrateScale y = sold();
        Check.state("sold", () -> y.removeGoods(0, 1));
        Check.state("inside a sold one", () -> y.removeGoods(3, 1));
        Check.same("refused ones are no changes", x.undo(), 1);
    }

    static void promise54() {
        CrateScale x = new CrateScale();
        Check.same("plum into fig", x.moveInto(2, 3), 3);
        Check.same("tree", Check.tree(x, 0), "apple:55[pear:32[fig:15[plum:5]]]");
        Check.same("plum into apple", x.moveInto(2, 0), 1);
        Check.same("pear into apple, where it is", x.moveInto(1, 0), 1);
        Check.same("tree after that", Check.tree(x, 0), "apple:55[plum:5,pear:27[fig:10]]");
        Check.state("into itself", () -> x.moveInto(0, 0));
        Check.state("into its child", () -> x.moveInto(0, 1));
        Check.state("into a deeper one", () -> x.moveInto(0, 3));
        Check.range("outer 4", () -> x.moveInto(0, 4));
        Check.range("outer -1", () -> x.moveInto(0, -1));
        Check.range("crate 4", () -> x.moveInto(4, 0));
        Check.range("crate -1", () -> x.moveInto(-1, 0));
        Check.same("refused ones are no changes", x.undo(), 2);
        x.weigh(0);
        x.moveInto(1, 0);
        Check.same("the same place discards, too", x.readingCount(0), 0);
        CrateScale y = sold();
        Check.state("out of a sold one", () -> y.moveInto(3, 2));
        Check.state("into a sold one", () -> y.moveInto(2, 0));
        depthOfMoves();
    }

    private static void depthOfMoves() {
        String nest = "crate a 1 0;crate b 1 0 in a;crate c 1 0 in b;crate d 1 0 in c;crate e 1 0 in d;"
            + "crate p 1 0;crate q 1 0 in p;crate r 1 0 in p;crate s 1 0 in r;";
        CrateScale x = Check.yard(nest);
        Check.state("s would get a depth of 6", () -> x.moveInto(5, 3));
        Check.same("s gets a depth of 5", x.moveInto(5, 2), 3);
        Check.same("s", x.depthOf(8), 5);
        Check.state("deeper within its own crate", () -> x.moveInto(4, 8));
        Check.same("e beside s", x.moveInto(4, 7), 5);
        Check.state("d would take nobody, but a would move inside", () -> x.moveInto(0, 4));
    }

    static void promise55() {
        CrateScale x = new CrateScale();
        Check.weighOften(x, 0, 1);
        Check.weighOften(x, 1, 3);
        Check.same("apple without pear", x.takeOut(1), 23);
        Check.same("pear", Check.tree(x, 1), "pear:27[fig:10]");
        Check.same("pear keeps its readings", x.readingCount(1), 3);
        Check.same("apple does not", x.readingCount(0), 0);
        Check.same("pear without fig", x.takeOut(3), 17);
        Check.state("a top-level crate", () -> x.takeOut(0));
        Check.range("crate 4", () -> x.takeOut(4));
        Check.range("crate -1", () -> x.takeOut(-1));
        Check.same("refused ones are no changes", x.undo(), 5);
        CrateScale y = sold();
        Check.state("inside a sold one", () -> y.takeOut(1));
        Check.state("sold", () -> y.takeOut(0));
    }

    static void promise56() {
        CrateScale x = new CrateScale();
        Check.same("new", x.replaceSpring(), 0);
        Check.weighOften(x, 2, 12);
        Check.same("sag", x.springSag(), 1);
        Check.same("age 12", x.replaceSpring(), 12);
        Check.same("sag of a new one", x.springSag(), 0);
        Check.same("readings stay", x.readingCount(2), 12);
        x.undo();
        Check.same("undone", x.springAge(), 12);
    }

    static void promise57() {
        CrateScale x = Check.yard("crate a 10 40;crate b 1 0 in a;crate c 1 0;buyer p 100 4 50;buyer q 60 5 98;buyer r 9 9 9;"
            + "noise 0;aging 1;readings 1;trust 10;");
        Check.state("too few readings", () -> x.sell(0, 0));
        Check.weighOften(x, 0, 11);
        Check.state("too little trust", () -> x.sell(0, 2));
        x.weigh(1);
        Check.state("inside another", () -> x.sell(1, 0));
        Check.same("a price of 56 and a refund of 5", x.sell(0, 0), 51);
        Check.same("money", x.moneyOf(0), 49);
        Check.same("trust", x.trustOf(0), 49);
        Check.same("purchases", x.purchasesOf(0), 1);
        Check.isTrue("b left, too", !x.isInYard(1));
        Check.state("sold already", () -> x.sell(0, 1));
        x.undo();
        Check.isTrue("b is back", x.isInYard(1));
        Check.same("a tolerated deviation", x.sell(0, 1), 56);
        Check.same("money without a refund", x.moneyOf(1), 4);
        Check.same("trust up to 100", x.trustOf(1), 100);
        x.setAging(2);
        x.weigh(2);
        Check.state("too little money", () -> x.sell(2, 1));
        Check.range("crate 3", () -> x.sell(3, 0));
        Check.range("crate -1", () -> x.sell(-1, 0));
        Check.range("buyer 3", () -> x.sell(2, 3));
        Check.range("buyer -1", () -> x.sell(2, -1));
        CrateScale low = Check.yard("crate a 1 0;buyer p 9 0 96;noise 50;seed 9999;readings 1;");
        low.weigh(0);
        Check.same("a mean of -45", low.sell(0, 0), 0);
        Check.same("trust 46 less", low.trustOf(0), 50);
    }

    static void promise58() {
        CrateScale x = new CrateScale();
        Check.same("4 before", x.setAmplitude(0), 4);
        Check.same("0 before", x.setAmplitude(50), 0);
        Check.same("50 before", x.setAmplitude(50), 50);
        Check.argument("51", () -> x.setAmplitude(51));
        Check.argument("-1", () -> x.setAmplitude(-1));
        Check.same("what leaves all as it was is a change", x.undo(), 2);
        Check.same("50", x.amplitude(), 50);
        x.undo();
        Check.same("0", x.amplitude(), 0);
    }

    static void promise59() {
        CrateScale x = new CrateScale();
        Check.same("10 before", x.setAging(1), 10);
        Check.same("1 before", x.setAging(100), 1);
        Check.argument("0", () -> x.setAging(0));
        Check.argument("101", () -> x.setAging(101));
        Check.argument("the least int", () -> x.setAging(Integer.MIN_VALUE));
        Check.same("100", x.aging(), 100);
        Check.same("undo", x.undo(), 1);
        Check.same("1", x.aging(), 1);
    }

    static void promise60() {
        CrateScale x = new CrateScale();
        Check.element("nothing to undo", () -> x.undo());
        for (int undone = 1; undone <= 8; undone++) {
            CrateScale y = stepped(10);
            for (int i = 1; i <= undone; i++) {
                Check.same("undo " + i, y.undo(), 8 - i);
            }
            Check.same("as before change " + (11 - undone), Check.view(y), Check.view(stepped(10 - undone)));
        }
        CrateScale last = stepped(10);
        for (int i = 0; i < 8; i++) {
            last.undo();
        }
        Check.element("only eight", () -> last.undo());
        Check.same("as before change 3", Check.view(last), Check.view(stepped(2)));
        x.weigh(2);
        Check.same("one new change", x.undo(), 0);
        whatUndoLeaves();
    }

    private static CrateScale stepped(int steps) {
        CrateScale x = new CrateScale();
        for (int i = 0; i < steps; i++) {
            step(x, i);
        }
        return x;
    }

    private static void step(CrateScale x, int i) {
        switch (i) {
            case 0: x.weigh(0); break;
            case 1: x.weigh(0); break;
            case 2: x.addGoods(2, 9); break;
            case 3: x.moveInto(3, 2); break;
            case 4: x.takeOut(3); break;
            case 5: x.removeGoods(2, 4); break;
            case 6: Check.run(x, "weigh apple 2;spring;noise 3;"); break;
            case 7: x.setAging(3); break;
            case 8: x.replaceSpring(); break;
            default: x.sell(0, 0); break;
        }
    }

    private static void whatUndoLeaves() {
        CrateScale x = new CrateScale();
        x.weigh(2);
        x.saveState();
        x.weigh(2);
        x.writeTree(2);
        Check.run(x, "?");
        x.appendInput(1, 2, 3, 4, 5);
        x.undo();
        Check.same("the output", Check.output(x), "plum:5");
        Check.same("the error", x.errorCode() + " " + x.errorOffset(), "1 0");
        Check.isTrue("the buffer", x.truncateInput(20));
        x.undo();
        Check.same("the saved state", x.restoreState(), 1);
    }
}
