/** Promises 2 to 7: the input buffer, the two kinds of text and the reported error. */
final class TextPromises {
    private TextPromises() {
    }

    static void promise2() {
        CrateScale x = new CrateScale();
        Check.same("first append", x.appendInput(0x63726174, 0x65206120, 0x35203620, 0x696e2062, 0x3b202020), 20);
        Check.same("second append", x.appendInput(0, 0, 0, 0, 0), 40);
        for (int length = 60; length <= 600; length += 20) {
            Check.same("append up to " + length, x.appendInput(-1, -1, -1, -1, -1), length);
        }
        Check.same("append to a full buffer", x.appendInput(1, 1, 1, 1, 1), CrateScale.NONE);
        x.truncateInput(581);
        Check.same("append with room for 19 bytes", x.appendInput(1, 1, 1, 1, 1), CrateScale.NONE);
        Check.isTrue("the refused append left the length", x.truncateInput(581));
        Check.isTrue("the refused append added nothing", !x.truncateInput(582));
        x.truncateInput(580);
        Check.same("append with room for 20 bytes", x.appendInput(1, 1, 1, 1, 1), 600);
        x.truncateInput(20);
        Check.same("the bytes stand in order, the most significant first", x.loadYard(), CrateScale.NONE);
        Check.same("the name b is unknown", x.errorCode(), CrateScale.UNKNOWN_NAME);
        Check.same("the name b is byte 15", x.errorOffset(), 15);
    }

    static void promise3() {
        CrateScale x = new CrateScale();
        Check.isTrue("0 of 0", x.truncateInput(0));
        Check.isTrue("1 of 0", !x.truncateInput(1));
        Check.isTrue("-1", !x.truncateInput(-1));
        Check.isTrue("the least int", !x.truncateInput(Integer.MIN_VALUE));
        x.appendInput(1, 2, 3, 4, 5);
        Check.isTrue("21 of 20", !x.truncateInput(21));
        Check.isTrue("20 of 20", x.truncateInput(20));
        Check.isTrue("7 of 20", x.truncateInput(7));
        Check.isTrue("8 of 7", !x.truncateInput(8));
        Check.same("append to 7", x.appendInput(1, 2, 3, 4, 5), 27);
    }

    static void promise4() {
        CrateScale x = new CrateScale();
        x.weigh(0);
        x.weigh(0);
        x.sell(0, 1);
        x.replaceSpring();
        x.addGoods(2, 9);
        x.saveState();
        x.writeTree(2);
        String before = Check.view(x);
        Check.same("a wrong setup", Check.load(x, "crate a 1 1;crate a 1 1;"), CrateScale.NONE);
        Check.same("a wrong setup changes nothing", Check.view(x), before);
        Check.isTrue("a wrong setup empties the buffer", !x.truncateInput(1));
        Check.same("a wrong setup leaves the changes", x.undo(), 4);
        Check.same("a wrong setup leaves the saved state", x.restoreState(), 2);
        x.weigh(2);
        Check.same("a right setup", Check.load(x, "crate b 50 500;crate a 1 0 in b;buyer b 9999 50 100;"), 2);
        Check.isTrue("a right setup empties the buffer", !x.truncateInput(1));
        Check.element("undo after a load", () -> x.undo());
        Check.element("restore after a load", () -> x.restoreState());
        Check.same("the output stays", Check.output(x), "plum:14");
        Check.same("the new yard", Check.view(x), Check.view(Check.yard("buyer c 9999 50 100;crate c 50 500;crate d 1 0 in c;")));
        Check.same("settings if none is given", x.amplitude() + " " + x.aging() + " " + x.requiredReadings() + " "
            + x.requiredTrust() + " " + x.springAge(), "5 50 2 0 0");
        Check.same("the seed is 1 if it is not given: noise 149 mod 11 - 5", x.weigh(0), 551 + 1);
        setupsThatAreRight();
        wrongSetupTokens();
        wrongSetupNames();
        tooManyInSetup();
    }

    private static void setupsThatAreRight() {
        CrateScale x = new CrateScale();
        Check.same("no blanks where none is needed", Check.load(x, "crate a1 0;crate b1 0in a;noise0;"), 2);
        Check.same("depth of b", x.depthOf(1), 1);
        Check.same("blanks everywhere", Check.load(x, "\n crate\n\na  1\n 0 \n;  \n"), 1);
        Check.same("keywords as names", Check.load(x, "crate crate 1 0;crate in 1 0 in crate;buyer in 1 1 1;buyer crate 1 1 1;"), 2);
        Check.same("parent of in", x.parentOf(1), 0);
        Check.same("the last setting counts", Check.load(x, "noise 7;noise 0;aging 3;aging 100;readings 2;readings 9;"
            + "trust 9;trust 100;seed 3;seed 9999;crate a 1 0;noise 50;"), 1);
        Check.same("settings", x.amplitude() + " " + x.aging() + " " + x.requiredReadings() + " " + x.requiredTrust(), "50 100 9 100");
        Check.same("seed 9999: 29092 mod 101 - 50", x.weigh(0), 1 - 46);
        Check.same("four digits with zeros before", Check.load(x, "crate a 0050 0500;"), 1);
        Check.same("gross of 0050 and 0500", x.grossOf(0), 550);
        Check.same("children stand in the order of the text", Check.load(x, "crate a 1 0;crate c 1 0 in a;crate b 1 0 in a;"), 3);
        Check.same("tree", Check.tree(x, 0), "a:3[c:1,b:1]");
        Check.same("the least settings", Check.load(x, "noise 0;aging 1;readings 1;trust 0;seed 0;crate a 1 0;buyer a 0 0 0;"), 1);
        Check.same("settings", x.amplitude() + " " + x.aging() + " " + x.requiredReadings() + " " + x.requiredTrust(), "0 1 1 0");
        Check.load(x, "readings 9;crate a 1 0;");
        Check.load(x, "noise 50;seed 0;crate a 1 0;crate b 1 0;crate c 1 0 in b;buyer a 7 7 7;buyer b 8 8 8;");
        Check.same("required readings are 2 again", x.requiredReadings(), 2);
        Check.same("seed 0: 74 mod 101 - 50", x.weigh(0), 1 + 24);
        Check.load(x, "crate a 1 0;crate b 1 0;crate d 1 0;buyer b 9 9 9;");
        Check.same("the seed is 1 again", x.weigh(0), 1 + 1);
        Check.same("nothing is left in b", Check.tree(x, 1), "b:1");
        Check.same("one buyer", x.averageTrust(), 9f);
        Check.isTrue("consistent after loads", x.isConsistent());
        Check.same("no error after a right setup", x.errorCode() + " " + x.errorOffset(), "0 -1");
    }

    private static void wrongSetupTokens() {
        Check.loadError("", CrateScale.NO_CRATE, 0);
        Check.loadError(" \n ", CrateScale.NO_CRATE, 3);
        Check.loadError("noise 5; ", CrateScale.NO_CRATE, 9);
        Check.loadError("noise 5", CrateScale.SYNTAX, 7);
        Check.loadError("crate a 1 0 ", CrateScale.SYNTAX, 12);
        Check.loadError("crate", CrateScale.SYNTAX, 5);
        Check.loadError("crate a 1 0 in", CrateScale.SYNTAX, 14);
        Check.loadError(";", CrateScale.SYNTAX, 0);
        Check.loadError("crate a 1 0;;", CrateScale.SYNTAX, 12);
        Check.loadError("5;", CrateScale.SYNTAX, 0);
        Check.loadError("weigh a 1;", CrateScale.SYNTAX, 0);
        Check.loadError("cratea 1 0;", CrateScale.SYNTAX, 0);
        Check.loadError("crate abcdefg 1 0;", CrateScale.SYNTAX, 6);
        Check.loadError("crate abcdefghi 1 0;", CrateScale.SYNTAX, 6);
        Check.loadError("crate 5 1 0;", CrateScale.SYNTAX, 6);
        Check.loadError("crate a b 0;", CrateScale.SYNTAX, 8);
        Check.loadError("crate a 1 ;", CrateScale.SYNTAX, 10);
        Check.loadError("crate a 1 0 into b;", CrateScale.SYNTAX, 12);
        Check.loadError("crate a 1 0 5;", CrateScale.SYNTAX, 12);
        Check.loadError("crate a 1 0 noise 5;", CrateScale.SYNTAX, 12);
        Check.loadError("crate a 1 0;crate b 1 0 in a 5;", CrateScale.SYNTAX, 29);
        Check.loadError("crate a 00001 0;", CrateScale.SYNTAX, 8);
        Check.loadError("crate a 99999 0;", CrateScale.SYNTAX, 8);
        Check.loadError("crate a 1 0;noise 5 5;", CrateScale.SYNTAX, 20);
        Check.loadError("crate a 1 0;buyer a 1 1;", CrateScale.SYNTAX, 23);
        Check.loadError("Crate a 1 0;", CrateScale.SYNTAX, 0);
        Check.loadError("crate a\t1 0;", CrateScale.SYNTAX, 7);
        Check.loadError("crate a\u00e91 0;", CrateScale.SYNTAX, 7);
        Check.loadError("crate a 1\0 0;", CrateScale.SYNTAX, 9);
        Check.loadError("crate a -1 0;", CrateScale.SYNTAX, 8);
        Check.loadError("crate a 0 0;", CrateScale.OUT_OF_RANGE, 8);
        Check.loadError("crate a 51 0;", CrateScale.OUT_OF_RANGE, 8);
        Check.loadError("crate a 1 501;", CrateScale.OUT_OF_RANGE, 10);
        Check.loadError("crate a 51 501 ?", CrateScale.OUT_OF_RANGE, 8);
        Check.loadError("buyer a 1 51 0;", CrateScale.OUT_OF_RANGE, 10);
        Check.loadError("buyer a 1 1 101;", CrateScale.OUT_OF_RANGE, 12);
        Check.loadError("buyer a 10000 1 1;", CrateScale.SYNTAX, 8);
        Check.loadError("noise 51;", CrateScale.OUT_OF_RANGE, 6);
        Check.loadError("aging 0;", CrateScale.OUT_OF_RANGE, 6);
        Check.loadError("aging 101;", CrateScale.OUT_OF_RANGE, 6);
        Check.loadError("readings 0;", CrateScale.OUT_OF_RANGE, 9);
        Check.loadError("readings 10;", CrateScale.OUT_OF_RANGE, 9);
        Check.loadError("trust 101;", CrateScale.OUT_OF_RANGE, 6);
        Check.loadError("seed 10000;", CrateScale.SYNTAX, 5);
        Check.loadError("crate a 1 0;buyer 5 1 1;", CrateScale.SYNTAX, 18);
        Check.loadError("crate a 1 0;buyer abcdefg 1 1 1;", CrateScale.SYNTAX, 18);
        Check.loadError("crate a 1 0;buyer a 1 1 1 1;", CrateScale.SYNTAX, 26);
        Check.loadError("crate a 1 0;buyer a b 1 1;", CrateScale.SYNTAX, 20);
        Check.loadError("crate a 1 0;trust;", CrateScale.SYNTAX, 17);
        String[] words = {"crate", "buyer", "noise", "seed", "aging", "readings", "trust"};
        for (String word : words) {
            Check.loadError("x" + word.substring(1) + " a 1 0 1;", CrateScale.SYNTAX, 0);
            Check.loadError(word.substring(0, word.length() - 1) + "x a 1 0 1;", CrateScale.SYNTAX, 0);
            Check.loadError(word + "s a 1 0 1;", CrateScale.SYNTAX, 0);
            Check.loadError(word.substring(1) + " a 1 0 1;", CrateScale.SYNTAX, 0);
        }
        Check.loadError("crate a 1 0;crate b 1 0 xn a;", CrateScale.SYNTAX, 24);
    }

    private static void wrongSetupNames() {
        Check.loadError("crate a 1 0;crate b 1 0;crate a 51 0;", CrateScale.DUPLICATE_NAME, 30);
        Check.loadError("buyer a 1 1 1;crate a 1 0;buyer a 1 1 1;", CrateScale.DUPLICATE_NAME, 32);
        Check.loadError("crate a 1 0 in a;", CrateScale.UNKNOWN_NAME, 15);
        Check.loadError("crate a 1 0 in b;crate b 1 0;", CrateScale.UNKNOWN_NAME, 15);
        Check.loadError("buyer b 1 1 1;crate a 1 0 in b;", CrateScale.UNKNOWN_NAME, 29);
        Check.loadError("crate apple 1 0;crate b 1 0 in appl;", CrateScale.UNKNOWN_NAME, 31);
        Check.loadError("crate a 1 0;crate b 1 0 in abcdefg;", CrateScale.SYNTAX, 27);
        String nest = "crate a 1 0;crate b 1 0 in a;crate c 1 0 in b;crate d 1 0 in c;crate e 1 0 in d;crate f 1 0 in e;";
        Check.same("six crates in a row", Check.load(new CrateScale(), nest), 6);
        Check.loadError(nest + "crate g 1 0 in f;", CrateScale.TOO_DEEP, nest.length() + 15);
    }

    private static void tooManyInSetup() {
        StringBuilder crates = new StringBuilder();
        for (int i = 0; i < 16; i++) {
            crates.append("crate ").append((char) ('a' + i)).append(" 1 0;");
        }
        Check.same("16 crates", Check.load(new CrateScale(), crates.toString()), 16);
        Check.loadError(crates + " crate a 1 0;", CrateScale.TOO_MANY, crates.length() + 1);
        Check.loadError(crates + "crates", CrateScale.SYNTAX, crates.length());
        String buyers = "buyer a 1 1 1;buyer b 1 1 1;buyer c 1 1 1;buyer d 1 1 1;buyer e 1 1 1;buyer f 1 1 1;";
        CrateScale x = new CrateScale();
        Check.same("16 crates and six buyers", Check.load(x, crates + buyers), 16);
        Check.same("six buyers", x.buyerCount(), 6);
        Check.loadError(buyers + "buyer", CrateScale.TOO_MANY, buyers.length());
    }

    static void promise5() {
        CrateScale x = new CrateScale();
        Check.same("an empty script", Check.run(x, ""), 0);
        Check.same("an empty script is a change", x.undo(), 0);
        String before = Check.view(x);
        Check.same("every statement", Check.run(x, "weigh apple 2;add fig 5;remove fig 5;move plum into fig;takeout plum;"
            + "weigh apple 2;spring;noise 9;aging 9;sell apple to ben;"), 10);
        Check.isTrue("the script empties the buffer", !x.truncateInput(1));
        CrateScale y = new CrateScale();
        Check.weighOften(y, 0, 2);
        y.addGoods(3, 5);
        y.removeGoods(3, 5);
        y.moveInto(2, 3);
        y.takeOut(2);
        Check.weighOften(y, 0, 2);
        y.replaceSpring();
        y.setAmplitude(9);
        y.setAging(9);
        y.sell(0, 1);
        Check.same("the script is like the methods", Check.view(x), Check.view(y));
        Check.same("a script is one change", x.undo(), 0);
        Check.same("undo takes the whole script back", Check.view(x), before);
        scriptsThatEndEarly();
        wrongScripts();
        leastAndGreatestNumbers();
    }

    private static void leastAndGreatestNumbers() {
        CrateScale x = new CrateScale();
        Check.same("the greatest numbers", Check.run(x, "weigh pear 50;add plum 500;noise 50;aging 100;remove plum 500;add plum 499;"), 6);
        Check.same("what they did", x.readingCount(1) + " " + x.goodsOf(2) + " " + x.amplitude() + " " + x.aging(), "50 499 50 100");
        Check.same("the least numbers", Check.run(x, "weigh pear 1;add plum 1;noise 0;aging 1;remove fig 1;add plum 1;"), 5);
        Check.same("what they did", x.totalReadings() + " " + x.goodsOf(2) + " " + x.goodsOf(3) + " " + x.amplitude() + " "
            + x.aging(), "51 500 8 0 1");
        String[] words = {"weigh", "add", "remove", "move", "takeout", "spring", "sell", "noise", "aging"};
        for (String word : words) {
            Check.scriptError("x" + word.substring(1) + " apple 1;", CrateScale.SYNTAX, 0);
            Check.scriptError(word + "s apple 1;", CrateScale.SYNTAX, 0);
        }
        Check.scriptError("move apple xnto fig;", CrateScale.SYNTAX, 11);
        Check.scriptError("sell apple xo amy;", CrateScale.SYNTAX, 11);
    }

    private static void scriptsThatEndEarly() {
        CrateScale x = new CrateScale();
        Check.same("the first statement would throw", Check.run(x, "takeout apple;weigh apple 1;"), 0);
        Check.same("nothing was run", x.totalReadings(), 0);
        Check.same("it is a change all the same", x.undo(), 0);
        Check.same("the third statement would throw", Check.run(x, "weigh apple 50;weigh plum 1;add apple 481;spring;"), 2);
        Check.same("what came before it stands", x.totalReadings(), 51);
        Check.same("what came after it did not run", x.springsReplaced(), 0);
        Check.same("no error is reported", x.errorCode(), CrateScale.NO_ERROR);
        Check.same("goods can't go below 0", Check.run(x, "remove apple 21;"), 0);
        Check.same("a crate can't go into its own inside", Check.run(x, "move apple into fig;"), 0);
        Check.same("nor into itself", Check.run(x, "move apple into apple;"), 0);
        Check.same("nobody buys plum with one reading", Check.run(x, "sell plum to amy;"), 0);
        Check.same("a sold crate is not weighed", Check.run(x, "weigh plum 1;sell plum to amy;weigh plum 1;"), 2);
        Check.same("a sold crate is known by name", Check.run(x, "noise 0;add plum 1;"), 1);
    }

    private static void wrongScripts() {
        Check.scriptError("weigh apple 1", CrateScale.SYNTAX, 13);
        Check.scriptError("weigh apple 1; spring ", CrateScale.SYNTAX, 22);
        Check.scriptError("crate a 1 0;", CrateScale.SYNTAX, 0);
        Check.scriptError("weigh apple 0;", CrateScale.OUT_OF_RANGE, 12);
        Check.scriptError("weigh apple 51;", CrateScale.OUT_OF_RANGE, 12);
        Check.scriptError("weigh nobody 51;", CrateScale.UNKNOWN_NAME, 6);
        Check.scriptError("weigh amy 1;", CrateScale.UNKNOWN_NAME, 6);
        Check.scriptError("weigh abcdefg 1;", CrateScale.SYNTAX, 6);
        Check.scriptError("weigh apple;", CrateScale.SYNTAX, 11);
        Check.scriptError("add apple 0;", CrateScale.OUT_OF_RANGE, 10);
        Check.scriptError("add apple 501;", CrateScale.OUT_OF_RANGE, 10);
        Check.scriptError("remove apple 0;", CrateScale.OUT_OF_RANGE, 13);
        Check.scriptError("remove apple 501;", CrateScale.OUT_OF_RANGE, 13);
        Check.scriptError("move apple to fig;", CrateScale.SYNTAX, 11);
        Check.scriptError("move apple into ben;", CrateScale.UNKNOWN_NAME, 16);
        Check.scriptError("sell apple into amy;", CrateScale.SYNTAX, 11);
        Check.scriptError("sell apple to fig;", CrateScale.UNKNOWN_NAME, 14);
        Check.scriptError("takeout apple 1;", CrateScale.SYNTAX, 14);
        Check.scriptError("spring 1;", CrateScale.SYNTAX, 7);
        Check.scriptError("noise 51;", CrateScale.OUT_OF_RANGE, 6);
        Check.scriptError("aging 0;", CrateScale.OUT_OF_RANGE, 6);
        Check.scriptError("aging 101;", CrateScale.OUT_OF_RANGE, 6);
        Check.scriptError("seed 1;", CrateScale.SYNTAX, 0);
        Check.scriptError("weigh apple 1;weigh pear 1;;", CrateScale.SYNTAX, 27);
        String thirty = "spring;".repeat(30);
        CrateScale x = new CrateScale();
        Check.same("30 statements", Check.run(x, thirty), 30);
        Check.same("30 springs", x.springsReplaced(), 30);
        Check.scriptError(thirty + "\nspring;", CrateScale.TOO_MANY, 211);
        Check.scriptError(thirty + "weigh nobody 99;", CrateScale.TOO_MANY, 210);
        Check.scriptError(thirty + "crate", CrateScale.SYNTAX, 210);
        Check.scriptError(thirty + ";", CrateScale.SYNTAX, 210);
    }

    static void promise6() {
        CrateScale x = new CrateScale();
        Check.same("before any text", x.errorCode(), CrateScale.NO_ERROR);
        Check.load(x, "crate a 0 0;");
        Check.same("after a setup", x.errorCode(), CrateScale.OUT_OF_RANGE);
        Check.run(x, "weigh b 1;");
        Check.same("after a script", x.errorCode(), CrateScale.UNKNOWN_NAME);
        x.weigh(0);
        x.undo();
        x.saveState();
        x.restoreState();
        Check.same("other calls leave it", x.errorCode(), CrateScale.UNKNOWN_NAME);
        Check.run(x, "weigh apple 1;");
        Check.same("after a right script", x.errorCode(), CrateScale.NO_ERROR);
        Check.load(x, "noise 1;");
        Check.same("without a crate", x.errorCode(), CrateScale.NO_CRATE);
        Check.load(x, "crate a 1 0;");
        Check.same("after a right setup", x.errorCode(), CrateScale.NO_ERROR);
    }

    static void promise7() {
        CrateScale x = new CrateScale();
        Check.same("before any text", x.errorOffset(), CrateScale.NONE);
        Check.load(x, "\ncrate a 0 0;");
        Check.same("after a setup", x.errorOffset(), 9);
        x.weigh(0);
        x.undo();
        Check.same("other calls leave it", x.errorOffset(), 9);
        Check.run(x, "!");
        Check.same("the first byte", x.errorOffset(), 0);
        Check.run(x, "weigh apple 1;");
        Check.same("after a right script", x.errorOffset(), CrateScale.NONE);
        String full = "crate a 1 0;" + " ".repeat(587) + "x";
        Check.load(x, full);
        Check.same("a word that the text ends", x.errorOffset(), 599);
        Check.load(x, "crate a 1 0" + " ".repeat(589));
        Check.same("a full buffer that ends too early", x.errorOffset(), 600);
    }
}
