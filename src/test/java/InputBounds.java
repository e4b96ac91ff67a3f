/** The boundaries of the input buffer, of tokens and of errors: section 4 of the terms and promises 2, 3, 6 and 7. */
final class InputBounds {
    private InputBounds() {
    }

    private static CrateScale filled(int length) {
        CrateScale x = new CrateScale();
        Check.type(x, " ".repeat(length));
        return x;
    }

    private static int append(CrateScale x) {
        return x.appendInput(0x20202020, 0x20202020, 0x20202020, 0x20202020, 0x20202020);
    }

    @Sentence(in = "Terms 4", says = "The input buffer holds at most 600 bytes.")
    static void aTextOfSixHundredBytes() {
        CrateScale x = new CrateScale();
        Check.same("a crate that the last byte ends", Check.load(x, " ".repeat(588) + "crate b 1 0;"), 1);
        Check.same("its name", x.crateNameByte(0, 0), (int) 'b');
        Check.same("a script that the last byte ends", Check.run(x, "weigh b 1;" + "\n".repeat(583) + "spring;"), 2);
        Check.same("after both", x.totalReadings() + " " + x.springsReplaced(), "1 1");
    }

    @Sentence(in = "Promise 2", says = "Appends 20 bytes to the input buffer.")
    static void twentyBytesEachTime() {
        CrateScale x = new CrateScale();
        for (int i = 1; i <= 30; i++) {
            Check.same("append " + i, append(x), 20 * i);
        }
        Check.isTrue("600 bytes stand", x.truncateInput(600));
    }

    /** Each byte of the twenty stands at its own place: a wrong byte there is the one that is reported. */
    @Sentence(in = "Promise 2", says = "Each parameter contributes four bytes, the most significant byte first.")
    static void eachByteAtItsPlace() {
        for (int place = 0; place < 20; place++) {
            CrateScale x = new CrateScale();
            int[] words = {0x20202020, 0x20202020, 0x20202020, 0x20202020, 0x20202020};
            words[place / 4] = 0x20202020 ^ (0x20 ^ 0xff) << (24 - place % 4 * 8);
            x.appendInput(words[0], words[1], words[2], words[3], words[4]);
            x.loadYard();
            Check.same("a byte of 255 at " + place, x.errorCode() + " " + x.errorOffset(), "1 " + place);
        }
    }

    @Sentence(in = "Promise 2", says = "first four bytes")
    static void theFirstByteOfAll() {
        CrateScale x = new CrateScale();
        x.appendInput(0x63726174, 0x65206120, 0x3120303b, 0x20202020, 0x20202020);
        Check.same("crate a 1 0;", x.loadYard(), 1);
        x.appendInput(0x80000000, 0, 0, 0, 0);
        x.loadYard();
        Check.same("a byte of 128", x.errorOffset(), 0);
    }

    @Sentence(in = "Promise 2", says = "last four bytes")
    static void theLastByteOfAll() {
        CrateScale x = new CrateScale();
        x.appendInput(0x20202020, 0x20202020, 0x63726174, 0x65206120, 0x3120303b);
        Check.same("crate a 1 0;", x.loadYard(), 1);
        x.appendInput(0x20202020, 0x20202020, 0x63726174, 0x65206120, 0x31203020);
        x.loadYard();
        Check.same("no semicolon", x.errorOffset(), 20);
    }

    @Sentence(in = "Promise 2", says = "Returns the new length of the input buffer, or NONE if it would exceed 600")
    static void roomForTwentyBytesAndForLess() {
        Check.same("from 0", append(filled(0)), 20);
        Check.same("from 579", append(filled(579)), 599);
        Check.same("from 580", append(filled(580)), 600);
        Check.same("from 581", append(filled(581)), CrateScale.NONE);
        Check.same("from 599", append(filled(599)), CrateScale.NONE);
        Check.same("from 600", append(filled(600)), CrateScale.NONE);
    }

    private static CrateScale nearlyFull() {
        CrateScale x = new CrateScale();
        Check.type(x, "weigh apple 2;spring;" + " ".repeat(550) + "noise 50; ");
        return x;
    }

    @Sentence(in = "Promise 2", says = "the buffer is then unchanged")
    static void refusedBytesAreNotThere() {
        Check.harmless("20 bytes to 581", CrateScale.NONE, InputBounds::nearlyFull, x -> append(x));
        CrateScale x = nearlyFull();
        x.appendInput(-1, -1, -1, -1, -1);
        Check.isTrue("the length is still 581", !x.truncateInput(582) && x.truncateInput(581));
        Check.same("the text is still right", x.runScript(), 3);
    }

    @Sentence(in = "Promise 3", says = "Returns true if the buffer was truncated")
    static void lengthsThatAreThere() {
        CrateScale x = filled(0);
        Check.isTrue("0 of 0", x.truncateInput(0));
        CrateScale y = filled(600);
        Check.isTrue("600 of 600", y.truncateInput(600));
        Check.same("nothing was cut", append(y), CrateScale.NONE);
        Check.isTrue("599 of 600", y.truncateInput(599));
        Check.isTrue("1 of 599", y.truncateInput(1));
        Check.same("1 is left", append(y), 21);
        Check.isTrue("0 of 21", y.truncateInput(0));
        Check.same("none is left", append(y), 20);
    }

    @Sentence(in = "Promise 3", says = "`length`: the new length")
    static void whatIsCutIsGone() {
        CrateScale x = new CrateScale();
        Check.type(x, "weigh apple 12;");
        x.truncateInput(13);
        x.appendInput(0x3b202020, 0x20202020, 0x20202020, 0x20202020, 0x20202020);
        Check.same("the 2 is gone", x.runScript(), 1);
        Check.same("one reading", x.totalReadings(), 1);
    }

    @Sentence(in = "Promise 3", says = "false, without a change, if length is negative or greater than the current length")
    static void lengthsThatAreNotThere() {
        Check.harmless("582 of 581", false, InputBounds::nearlyFull, x -> x.truncateInput(582));
        Check.harmless("-1 of 581", false, InputBounds::nearlyFull, x -> x.truncateInput(-1));
        Check.harmless("600 of 581", false, InputBounds::nearlyFull, x -> x.truncateInput(600));
        Check.harmless("the least int", false, InputBounds::nearlyFull, x -> x.truncateInput(Integer.MIN_VALUE));
        Check.harmless("the greatest int", false, InputBounds::nearlyFull, x -> x.truncateInput(Integer.MAX_VALUE));
        Check.isTrue("1 of 0", !filled(0).truncateInput(1));
        Check.isTrue("601 of 600", !filled(600).truncateInput(601));
    }

    @Sentence(in = "Terms 4", says = "a word (a maximal run of lowercase letters, at most 8)")
    static void wordsOfEightAndNineLetters() {
        Check.same("readings", Check.load(new CrateScale(), "readings9;crate a1 0;"), 1);
        Check.loadError("readingss9;crate a1 0;", CrateScale.SYNTAX, 0);
        Check.loadError("crate abcdefgh 1 0;", CrateScale.SYNTAX, 6);
        Check.loadError("crate abcdefghi 1 0;", CrateScale.SYNTAX, 6);
        Check.loadError("crate a 1 0 abcdefghi;", CrateScale.SYNTAX, 12);
        Check.loadError("crate a 1 0;crate b 1 0 in " + "a".repeat(500), CrateScale.SYNTAX, 27);
        Check.loadError("cratea 1 0;", CrateScale.SYNTAX, 0);
    }

    @Sentence(in = "Terms 4", says = "a number (a maximal run of digits, at most 4)")
    static void numbersOfFourAndFiveDigits() {
        CrateScale x = new CrateScale();
        Check.same("zeros before", Check.load(x, "crate a 0001 0000;seed 0000;noise 0050;"), 1);
        Check.same("weights", x.tareOf(0) + " " + x.goodsOf(0) + " " + x.amplitude(), "1 0 50");
        Check.same("9999", Check.load(x, "crate a 1 0;seed 9999;"), 1);
        Check.loadError("crate a 00001 0;", CrateScale.SYNTAX, 8);
        Check.loadError("crate a 1 00000;", CrateScale.SYNTAX, 10);
        Check.loadError("seed 10000;", CrateScale.SYNTAX, 5);
        Check.loadError("crate a " + "9".repeat(500), CrateScale.SYNTAX, 8);
        Check.loadError("crate a 4294967297 0;", CrateScale.SYNTAX, 8);
    }

    @Sentence(in = "Terms 4", says = "Spaces (byte 32) and line feeds (byte 10) separate tokens and are otherwise ignored.")
    static void bytesNextToSpacesAndLineFeeds() {
        Check.same("both", Check.load(new CrateScale(), "\n \ncrate\na \n 1 0\n;\n"), 1);
        Check.same("none but where two tokens would be one", Check.load(new CrateScale(), "crate a1 0;crate b1 0in a;"), 2);
        Check.loadError("cra te a 1 0;", CrateScale.SYNTAX, 0);
        Check.loadError("crate a 1\n0 5;", CrateScale.SYNTAX, 12);
        for (int wrong : new int[] {0, 9, 11, 12, 13, 31, 33, 127, 128, 138, 160, 255}) {
            Check.loadError("crate a" + (char) wrong + "1 0;", CrateScale.SYNTAX, 7);
        }
    }

    @Sentence(in = "Terms 4", says = "Each statement ends with a semicolon.")
    static void semicolonsMissingAndTooMany() {
        Check.loadError("crate a 1 0", CrateScale.SYNTAX, 11);
        Check.loadError("crate a 1 0 crate b 1 0;", CrateScale.SYNTAX, 12);
        Check.loadError("crate a 1 0;;", CrateScale.SYNTAX, 12);
        Check.loadError(";crate a 1 0;", CrateScale.SYNTAX, 0);
        Check.scriptError("spring", CrateScale.SYNTAX, 6);
        Check.scriptError("spring;;", CrateScale.SYNTAX, 7);
        Check.scriptError(";spring;", CrateScale.SYNTAX, 0);
        for (int wrong : new int[] {':', '<', ',', '.'}) {
            Check.scriptError("spring" + (char) wrong, CrateScale.SYNTAX, 6);
        }
    }

    @Sentence(in = "Terms 4", says = "N stands for a number and NAME for a word of 1 to 6 letters.")
    static void bytesNextToLettersAndDigits() {
        CrateScale x = Check.yard("crate az 19 0;crate crate 1 0;");
        Check.same("the ends of both", Check.tree(x, 0) + Check.tree(x, 1), "az:19crate:1");
        Check.same("0 and 9", Check.yard("crate a 10 90;").grossOf(0), 100);
        for (int wrong : new int[] {'a' - 1, 'z' + 1, 'A', 'Z', '0' - 1, '9' + 1, '-', '+'}) {
            Check.loadError("crate " + (char) wrong + " 1 0;", CrateScale.SYNTAX, 6);
            Check.loadError("crate a " + (char) wrong + "1 0;", CrateScale.SYNTAX, 8);
            Check.loadError("crate a 1" + (char) wrong + " 0;", CrateScale.SYNTAX, 9);
        }
        Check.loadError("crate a b 0;", CrateScale.SYNTAX, 8);
        Check.loadError("crate 1 1 0;", CrateScale.SYNTAX, 6);
        Check.loadError("crate abcdefg 1 0;", CrateScale.SYNTAX, 6);
        Check.loadError("crate a ; 0;", CrateScale.SYNTAX, 8);
        Check.loadError("crate ; 1 0;", CrateScale.SYNTAX, 6);
    }

    @Sentence(in = "Terms 4", says = "If a setting is given more than once, the last one counts.")
    static void settingsGivenTwice() {
        CrateScale x = Check.yard("noise 50;aging 100;readings 9;trust 100;seed 9999;crate a 1 0;"
            + "seed 65;trust 1;readings 2;aging 3;noise 4;noise 50;");
        Check.same("settings", x.amplitude() + " " + x.aging() + " " + x.requiredReadings() + " " + x.requiredTrust(), "50 3 2 1");
        Check.same("the seed", x.weigh(0), 1 - 50);
        Check.loadError("noise 51;noise 50;crate a 1 0;", CrateScale.OUT_OF_RANGE, 6);
    }

    @Sentence(in = "Terms 4", says = "A crate and a buyer may have the same name.")
    static void aCrateAndABuyerOfOneName() {
        CrateScale x = Check.yard("crate a 1 0;buyer a 9 0 0;noise 0;readings 1;");
        Check.same("in both orders", Check.load(new CrateScale(), "buyer a 0 0 0;crate a 1 0;"), 1);
        Check.same("in a script", Check.run(x, "weigh a 1;sell a to a;"), 2);
        Check.same("sold", x.purchasesOf(0), 1);
    }

    @Sentence(in = "Terms 4", says = "parsing stops at the first token with an error")
    static void theFirstOfTwoErrors() {
        Check.loadError("crate a 51 501;", CrateScale.OUT_OF_RANGE, 8);
        Check.loadError("crate a 1 0;crate a 0 0;", CrateScale.DUPLICATE_NAME, 18);
        Check.loadError("crate a 0 0 in b;?", CrateScale.OUT_OF_RANGE, 8);
        Check.loadError("crate a 1 0 in b ?", CrateScale.UNKNOWN_NAME, 15);
        Check.scriptError("weigh nobody 0;", CrateScale.UNKNOWN_NAME, 6);
        Check.scriptError("sell nobody to nobody;", CrateScale.UNKNOWN_NAME, 5);
        Check.scriptError("sell fig into nobody;", CrateScale.SYNTAX, 9);
        Check.scriptError("weigh fig 0?", CrateScale.OUT_OF_RANGE, 10);
    }

    @Sentence(in = "Terms 4", says = "If several errors apply to that token, the one with the smallest code is reported.")
    static void tokensWithSeveralErrors() {
        Check.loadError("crate a 99999 0;", CrateScale.SYNTAX, 8);
        Check.loadError("crate a 1 0 in abcdefg;", CrateScale.SYNTAX, 15);
        Check.loadError("noise 51", CrateScale.OUT_OF_RANGE, 6);
        Check.loadError("noise", CrateScale.SYNTAX, 5);
        Check.scriptError("spring;".repeat(30) + "sprint;", CrateScale.SYNTAX, 210);
        Check.scriptError("spring;".repeat(30) + "5;", CrateScale.SYNTAX, 210);
        Check.scriptError("spring;".repeat(30) + "springsss;", CrateScale.SYNTAX, 210);
        Check.scriptError("weigh nobodys 1;", CrateScale.SYNTAX, 6);
    }

    @Sentence(in = "Terms 4", says = "The error offset is the index of the first byte of the token")
    static void offsetsFromTheFirstToTheLastByte() {
        Check.loadError("x", CrateScale.SYNTAX, 0);
        Check.loadError(" ".repeat(599) + "x", CrateScale.SYNTAX, 599);
        Check.loadError(" ".repeat(596) + "seed", CrateScale.SYNTAX, 600);
        Check.loadError(" ".repeat(300) + "crate zz 99 0;", CrateScale.OUT_OF_RANGE, 309);
        Check.loadError("\n".repeat(256) + "crate abcdefg 1 0;", CrateScale.SYNTAX, 262);
        Check.loadError("crate a 1 0?", CrateScale.SYNTAX, 11);
    }

    @Sentence(in = "Terms 4", says = "or the length of the text if the text ends too early")
    static void textsThatEndBehindEachToken() {
        endsTooEarly("crate a 1 0;crate b 1 0 in a;buyer p 1 0 0;noise 5;seed 5;aging 5;readings 5;trust 5;", true);
        endsTooEarly("weigh apple 1;add fig 1;remove fig 1;move plum into fig;takeout plum;spring;sell plum to amy;noise 5;"
            + "aging 9;", false);
        Check.loadError("crate a 1 0" + " ".repeat(589), CrateScale.SYNTAX, 600);
    }

    private static void endsTooEarly(String text, boolean isSetup) {
        for (int length = 1; length < text.length(); length++) {
            boolean isTokenWhole = text.charAt(length) == ' ' || text.charAt(length) == ';';
            for (String blank : isTokenWhole ? new String[] {"", " ", "\n\n "} : new String[0]) {
                String cut = text.substring(0, length) + blank;
                CrateScale x = new CrateScale();
                Check.same("answer to " + cut, isSetup ? Check.load(x, cut) : Check.run(x, cut), CrateScale.NONE);
                Check.same("error of " + cut, x.errorCode() + " " + x.errorOffset(), "1 " + cut.length());
            }
        }
    }

    @Sentence(in = "Terms 4", says = "SYNTAX: the token is not allowed at its place, it is too long, a byte belongs to no token")
    static void tokensAtAWrongPlace() {
        Check.loadError("weigh apple 1;", CrateScale.SYNTAX, 0);
        Check.loadError("spring;", CrateScale.SYNTAX, 0);
        Check.loadError("crate a 1;", CrateScale.SYNTAX, 9);
        Check.loadError("crate a 1 0 in 5;", CrateScale.SYNTAX, 15);
        Check.loadError("crate a 1 0 in;", CrateScale.SYNTAX, 14);
        Check.loadError("crate a 1 0;crate b 1 0 in a in a;", CrateScale.SYNTAX, 29);
        Check.loadError("noise a;", CrateScale.SYNTAX, 6);
        Check.loadError("noise 5 5;", CrateScale.SYNTAX, 8);
        Check.scriptError("crate a 1 0;", CrateScale.SYNTAX, 0);
        Check.scriptError("buyer a 1 0 0;", CrateScale.SYNTAX, 0);
        Check.scriptError("readings 2;", CrateScale.SYNTAX, 0);
        Check.scriptError("trust 2;", CrateScale.SYNTAX, 0);
        Check.scriptError("seed 2;", CrateScale.SYNTAX, 0);
        Check.scriptError("spring 1;", CrateScale.SYNTAX, 7);
        Check.scriptError("takeout fig apple;", CrateScale.SYNTAX, 12);
        Check.scriptError("move fig in apple;", CrateScale.SYNTAX, 9);
        Check.scriptError("move fig apple;", CrateScale.SYNTAX, 9);
        Check.scriptError("sell fig to 5;", CrateScale.SYNTAX, 12);
        Check.scriptError("weigh 5 fig;", CrateScale.SYNTAX, 6);
        Check.scriptError("weigh fig;", CrateScale.SYNTAX, 9);
        Check.scriptError("weigh fig 1 1;", CrateScale.SYNTAX, 12);
    }

    @Sentence(in = "Terms 4", says = "SYNTAX: the token is not allowed at its place")
    static void wordsOneLetterOff() {
        for (String word : new String[] {"crate", "buyer", "noise", "seed", "aging", "readings", "trust"}) {
            for (String off : oneLetterOff(word)) {
                Check.loadError(off + " 5;", CrateScale.SYNTAX, 0);
            }
        }
        for (String word : new String[] {"weigh", "add", "remove", "move", "takeout", "spring", "sell", "noise", "aging"}) {
            for (String off : oneLetterOff(word)) {
                Check.scriptError(off + " fig;", CrateScale.SYNTAX, 0);
            }
        }
        for (String off : oneLetterOff("in")) {
            Check.loadError("crate a 1 0;crate b 1 0 " + off + " a;", CrateScale.SYNTAX, 24);
        }
        for (String off : oneLetterOff("into")) {
            Check.scriptError("move fig " + off + " plum;", CrateScale.SYNTAX, 9);
        }
        for (String off : oneLetterOff("to")) {
            Check.scriptError("sell fig " + off + " amy;", CrateScale.SYNTAX, 9);
        }
    }

    private static String[] oneLetterOff(String word) {
        int last = word.length() - 1;
        return new String[] {"x" + word.substring(1), word.substring(0, last) + "x", word.substring(0, last), word + "x",
            "x" + word, word.substring(1) + word.charAt(0)};
    }

    @Sentence(in = "Terms 4", says = "OUT_OF_RANGE: a number is out of its range.")
    static void numbersFarOutOfTheirRanges() {
        for (String text : new String[] {"noise ", "aging ", "readings ", "trust "}) {
            Check.loadError(text + "9999;", CrateScale.OUT_OF_RANGE, text.length());
        }
        for (String text : new String[] {"noise ", "aging ", "weigh fig ", "add fig ", "remove fig "}) {
            Check.scriptError(text + "9999;", CrateScale.OUT_OF_RANGE, text.length());
        }
    }

    @Sentence(in = "Terms 4", says = "the name of a new crate is the name of an earlier crate")
    static void cratesOfTheSameName() {
        Check.loadError("crate a 1 0;crate a 1 0;", CrateScale.DUPLICATE_NAME, 18);
        Check.loadError(IndexBounds.crates(15) + "crate a 1 0;", CrateScale.DUPLICATE_NAME, 15 * 12 + 6);
        Check.loadError(IndexBounds.crates(15) + "crate o 1 0;", CrateScale.DUPLICATE_NAME, 15 * 12 + 6);
        Check.loadError("crate abcdef 1 0;crate abcdef 1 0;", CrateScale.DUPLICATE_NAME, 23);
        Check.same("names that begin or end alike", Check.load(new CrateScale(), "crate abcdef 1 0;crate abcdeg 1 0;"
            + "crate bbcdef 1 0;crate abcde 1 0;crate bcdef 1 0;crate a 1 0;crate aa 1 0;"), 7);
    }

    @Sentence(in = "Terms 4", says = "the name of a new buyer is the name of an earlier buyer")
    static void buyersOfTheSameName() {
        Check.loadError("buyer a 0 0 0;buyer a 0 0 0;", CrateScale.DUPLICATE_NAME, 20);
        Check.loadError(IndexBounds.buyers(5) + "buyer a 1 0 0;", CrateScale.DUPLICATE_NAME, 5 * 14 + 6);
        Check.loadError(IndexBounds.buyers(5) + "buyer e 1 0 0;", CrateScale.DUPLICATE_NAME, 5 * 14 + 6);
        CrateScale x = Check.yard("crate a 1 0;buyer abcdef 0 0 0;buyer abcdeg 0 0 0;buyer abcde 0 0 0;buyer a 0 0 0;");
        Check.same("names that begin alike", x.buyerCount(), 4);
    }

    @Sentence(in = "Terms 4", says = "UNKNOWN_NAME: no crate, or no buyer, has the name.")
    static void namesOfNobody() {
        Check.loadError("crate a 1 0 in a;", CrateScale.UNKNOWN_NAME, 15);
        Check.loadError("crate b 1 0;crate a 1 0 in c;crate c 1 0;", CrateScale.UNKNOWN_NAME, 27);
        Check.loadError("buyer p 0 0 0;crate a 1 0 in p;", CrateScale.UNKNOWN_NAME, 29);
        Check.loadError("crate a 1 0 in apple;", CrateScale.UNKNOWN_NAME, 15);
        Check.scriptError("weigh appl 1;", CrateScale.UNKNOWN_NAME, 6);
        Check.scriptError("weigh apples 1;", CrateScale.UNKNOWN_NAME, 6);
        Check.scriptError("weigh amy 1;", CrateScale.UNKNOWN_NAME, 6);
        Check.scriptError("move fig into ben;", CrateScale.UNKNOWN_NAME, 14);
        Check.scriptError("sell fig to apple;", CrateScale.UNKNOWN_NAME, 12);
        Check.scriptError("sell amy to ben;", CrateScale.UNKNOWN_NAME, 5);
        CrateScale x = Check.yard("crate a 1 0;");
        Check.run(x, "sell a to apple;");
        Check.same("no buyers at all", x.errorCode() + " " + x.errorOffset(), "4 10");
    }

    @Sentence(in = "Terms 4", says = "TOO_DEEP: the name behind the word in is that of a crate with depth 5.")
    static void namesOfCratesOfDepthFourAndFive() {
        Check.same("depth 4", Check.load(new CrateScale(), YardBounds.DEEP + "crate g 1 0 in e;crate h 1 0 in e;"), 8);
        Check.loadError(YardBounds.DEEP + "crate g 1 0 in f;", CrateScale.TOO_DEEP, YardBounds.DEEP.length() + 15);
        Check.loadError(YardBounds.DEEP + "crate g 1 0 in f", CrateScale.TOO_DEEP, YardBounds.DEEP.length() + 15);
        CrateScale x = Check.yard(YardBounds.DEEP);
        Check.same("in a script it is no error of the text", Check.run(x, "move a into f;"), 0);
        Check.same("no error", x.errorCode(), CrateScale.NO_ERROR);
    }

    @Sentence(in = "Terms 4", says = "TOO_MANY: the word crate of a 17th crate")
    static void theSeventeenthCrate() {
        Check.same("16", Check.load(new CrateScale(), IndexBounds.crates(16)), 16);
        Check.loadError(IndexBounds.crates(16) + "crate", CrateScale.TOO_MANY, 16 * 12);
        Check.loadError(IndexBounds.crates(16) + "crate a 99 9 in q;", CrateScale.TOO_MANY, 16 * 12);
        Check.loadError(IndexBounds.crates(16) + "noise 5;\ncrate q 1 0;", CrateScale.TOO_MANY, 16 * 12 + 9);
        Check.loadError(IndexBounds.crates(17).replace("crate p", "crate o"), CrateScale.DUPLICATE_NAME, 15 * 12 + 6);
    }

    @Sentence(in = "Terms 4", says = "the word buyer of a 7th buyer")
    static void theSeventhBuyer() {
        Check.same("6", Check.load(new CrateScale(), IndexBounds.buyers(6) + "crate a 1 0;"), 1);
        Check.loadError(IndexBounds.buyers(6) + "buyer", CrateScale.TOO_MANY, 6 * 14);
        Check.loadError(IndexBounds.buyers(6) + "crate a 1 0; buyer a 99 99 999;", CrateScale.TOO_MANY, 6 * 14 + 13);
        Check.same("16 crates and 6 buyers", Check.load(new CrateScale(), IndexBounds.buyers(6) + IndexBounds.crates(16)), 16);
    }

    @Sentence(in = "Terms 4", says = "the first word of a 31st statement of a script")
    static void theThirtyFirstStatement() {
        String thirty = "spring;".repeat(30);
        Check.same("29", Check.run(new CrateScale(), thirty.substring(7)), 29);
        Check.same("30", Check.run(new CrateScale(), thirty + " \n"), 30);
        Check.scriptError(thirty + "spring;", CrateScale.TOO_MANY, 210);
        Check.scriptError(thirty + " noise 99", CrateScale.TOO_MANY, 211);
        Check.scriptError(thirty + "sell", CrateScale.TOO_MANY, 210);
        Check.scriptError(thirty.substring(7) + "noise 99;spring;", CrateScale.OUT_OF_RANGE, 209);
        Check.same("a setup may have more", Check.load(new CrateScale(), "noise 5;".repeat(40) + "crate a 1 0;"), 1);
    }

    @Sentence(in = "Terms 4", says = "NO_CRATE: a setup text ends without a crate; the error offset is then the length of the text.")
    static void setupsWithoutACrate() {
        Check.loadError("", CrateScale.NO_CRATE, 0);
        Check.loadError(" ", CrateScale.NO_CRATE, 1);
        Check.loadError("\n".repeat(600), CrateScale.NO_CRATE, 600);
        Check.loadError("buyer a 0 0 0;", CrateScale.NO_CRATE, 14);
        Check.loadError("noise 5; \n", CrateScale.NO_CRATE, 10);
        Check.loadError("noise 5", CrateScale.SYNTAX, 7);
        CrateScale x = new CrateScale();
        Check.same("a script needs no statement", Check.run(x, ""), 0);
        Check.same("and is right", x.errorCode() + " " + x.errorOffset(), "0 -1");
    }

    @Sentence(in = "Promise 6", says = "Returns the error code of the latest call of loadYard or runScript.")
    static void theLatestOfBothKinds() {
        CrateScale x = new CrateScale();
        Check.load(x, "");
        Check.same("a setup", x.errorCode(), CrateScale.NO_CRATE);
        Check.run(x, "noise 99;");
        Check.same("then a script", x.errorCode(), CrateScale.OUT_OF_RANGE);
        Check.load(x, "");
        Check.same("then a setup", x.errorCode(), CrateScale.NO_CRATE);
    }

    @Sentence(in = "Promise 6", says = "NO_ERROR if that call found no error or there was no such call")
    static void noErrorAtFirstAndAfterARightText() {
        CrateScale x = new CrateScale();
        Check.same("no such call", x.errorCode(), CrateScale.NO_ERROR);
        Check.load(x, "?");
        Check.run(x, "takeout apple;");
        Check.same("a script that ends at its first statement", x.errorCode(), CrateScale.NO_ERROR);
        Check.load(x, "?");
        Check.load(x, "crate a 1 0;");
        Check.same("a right setup", x.errorCode(), CrateScale.NO_ERROR);
    }

    @Sentence(in = "Promise 7", says = "Returns the error offset of the latest call of loadYard or runScript.")
    static void theLatestOffset() {
        CrateScale x = new CrateScale();
        Check.load(x, "  ?");
        Check.same("a setup", x.errorOffset(), 2);
        Check.run(x, "?");
        Check.same("then a script", x.errorOffset(), 0);
        x.appendInput(1, 2, 3, 4, 5);
        x.truncateInput(0);
        x.replaceSpring();
        x.undo();
        x.saveState();
        x.restoreState();
        Check.same("nothing else alters it", x.errorOffset(), 0);
    }

    @Sentence(in = "Promise 7", says = "Returns the offset; NONE if errorCode() is NO_ERROR.")
    static void noOffsetWithoutAnError() {
        CrateScale x = new CrateScale();
        Check.same("at first", x.errorOffset(), CrateScale.NONE);
        Check.run(x, "?");
        Check.run(x, "");
        Check.same("after a right script", x.errorOffset(), CrateScale.NONE);
        Check.load(x, "?");
        Check.load(x, "crate a 1 0;");
        Check.same("after a right setup", x.errorOffset(), CrateScale.NONE);
    }
}
