/** Promises 61 to 64: the output and the saved state. */
final class OutputPromises {
    private OutputPromises() {
    }

    static void promise61() {
        CrateScale x = Check.yard("crate a 1 0;crate b 50 500 in a;crate c 1 0 in b;crate d 1 0 in a;crate e 1 0 in d;"
            + "crate f 1 0 in d;crate zzzzzz 50 500;buyer p 9999 0 0;noise 0;");
        Check.same("a", Check.tree(x, 0), "a:555[b:551[c:1],d:3[e:1,f:1]]");
        Check.same("the former output is replaced", Check.tree(x, 2), "c:1");
        Check.same("length", x.writeTree(6), 10);
        Check.weighOften(x, 6, 2);
        x.sell(6, 0);
        Check.same("a sold crate", Check.tree(x, 6), "zzzzzz:550");
        Check.range("crate 7", () -> x.writeTree(7));
        Check.range("crate -1", () -> x.writeTree(-1));
        Check.same("the output after that", Check.output(x), "zzzzzz:550");
        StringBuilder row = new StringBuilder("crate a 50 500;");
        StringBuilder want = new StringBuilder("a:8800[");
        for (int i = 1; i < 16; i++) {
            char name = (char) ('a' + i);
            row.append("crate ").append(name).append(" 50 500 in a;");
            want.append(name).append(i < 15 ? ":550," : ":550]");
        }
        CrateScale y = Check.yard(row.toString());
        Check.same("16 crates", Check.tree(y, 0), want.toString());
        CrateScale z = Check.yard("crate a 1 0;crate b 1 0 in a;crate c 1 0 in b;crate d 1 0 in c;crate e 1 0 in d;crate f 1 0 in e;");
        Check.same("as deep as can be", Check.tree(z, 0), "a:6[b:5[c:4[d:3[e:2[f:1]]]]]");
    }

    static void promise62() {
        CrateScale x = new CrateScale();
        Check.same("no output", x.outputByte(0), CrateScale.NONE);
        x.writeTree(2);
        Check.same("p", x.outputByte(0), (int) 'p');
        Check.same("colon", x.outputByte(4), 58);
        Check.same("5", x.outputByte(5), (int) '5');
        Check.same("behind the end", x.outputByte(6), CrateScale.NONE);
        Check.same("-1", x.outputByte(-1), CrateScale.NONE);
        Check.same("the greatest int", x.outputByte(Integer.MAX_VALUE), CrateScale.NONE);
        x.moveInto(2, 0);
        Check.same("a change leaves the output", x.outputByte(0), (int) 'p');
    }

    static void promise63() {
        CrateScale x = new CrateScale();
        Check.same("no readings", x.saveState(), 0);
        Check.weighOften(x, 0, 3);
        Check.weighOften(x, 2, 2);
        Check.same("all crates", x.saveState(), 5);
        x.sell(2, 0);
        Check.same("sold crates keep theirs", x.saveState(), 5);
        x.addGoods(0, 1);
        Check.same("without discarded ones", x.saveState(), 2);
        Check.same("saving is no change", x.undo(), 6);
        x.undo();
        Check.same("the latest one counts", x.restoreState(), 2);
    }

    static void promise64() {
        CrateScale x = new CrateScale();
        Check.element("nothing is saved", () -> x.restoreState());
        Check.weighOften(x, 0, 3);
        x.saveState();
        String before = Check.view(x);
        x.writeTree(1);
        x.moveInto(3, 2);
        x.replaceSpring();
        x.setAging(1);
        x.setAmplitude(50);
        Check.weighOften(x, 2, 2);
        x.sell(2, 0);
        Check.run(x, "?");
        Check.same("three readings", x.restoreState(), 3);
        Check.same("all as it was", Check.view(x), before);
        Check.element("nothing to undo", () -> x.undo());
        Check.same("the output stays", Check.output(x), "pear:27[fig:10]");
        Check.same("the error stays", x.errorCode(), CrateScale.SYNTAX);
        x.addGoods(0, 1);
        Check.same("it remains saved", x.restoreState(), 3);
        x.weigh(0);
        Check.same("changes after it can be undone", x.undo(), 0);
        Check.same("as saved", Check.view(x), before);
    }
}
