import java.util.NoSuchElementException;

/** The boundaries of the output and of the saved state: promises 61 to 64. */
final class OutputBounds {
    private OutputBounds() {
    }

    @Sentence(in = "Promise 61", says = "replacing the former output")
    static void aShorterOutputBehindALongerOne() {
        CrateScale x = new CrateScale();
        Check.same("the longer one", x.writeTree(0), 25);
        Check.same("its last byte", x.outputByte(24), (int) ']');
        Check.same("the shorter one", x.writeTree(2), 6);
        Check.same("its last byte", x.outputByte(5), (int) '5');
        Check.same("nothing is left of the longer one", x.outputByte(6), CrateScale.NONE);
        Check.same("the longer one again", Check.tree(x, 0), "apple:50[pear:27[fig:10]]");
        CrateScale y = Check.busy();
        Check.range("a refused call", () -> y.writeTree(4));
        Check.same("keeps the former output", Check.output(y), "a:502[b:2]");
    }

    @Sentence(in = "Promise 61", says = "if it has children, an opening bracket (byte 91)")
    static void noneOneAndManyChildren() {
        CrateScale x = Check.yard("crate a 1 0;crate b 1 0 in a;crate c 1 0 in a;crate d 1 0 in b;crate abcdef 50 500 in c;"
            + "crate e 1 0 in c;crate g 1 0;");
        Check.same("none", Check.tree(x, 6), "g:1");
        Check.same("one", Check.tree(x, 1), "b:2[d:1]");
        Check.same("two", Check.tree(x, 2), "c:552[abcdef:550,e:1]");
        Check.same("both, inside", Check.tree(x, 0), "a:555[b:2[d:1],c:552[abcdef:550,e:1]]");
        Check.same("six levels", Check.tree(Check.yard(YardBounds.DEEP), 0), "a:6[b:5[c:4[d:3[e:2[f:1]]]]]");
        x.takeOut(3);
        Check.same("none left", Check.tree(x, 1), "b:1");
    }

    /** Sixteen crates with names of six letters: the longest output that can be. */
    @Sentence(in = "Promise 61", says = "a comma (byte 44) between two of them, and a closing bracket (byte 93)")
    static void allCratesInOne() {
        StringBuilder text = new StringBuilder("crate zzzzzz 50 500;");
        StringBuilder due = new StringBuilder("zzzzzz:8800[");
        for (int i = 1; i < 16; i++) {
            String name = "abcde" + (char) ('a' + i);
            text.append("crate ").append(name).append(" 50 500 in zzzzzz;");
            due.append(name).append(i < 15 ? ":550," : ":550]");
        }
        CrateScale x = Check.yard(text.toString());
        Check.same("the bytes", Check.tree(x, 0), due.toString());
        Check.same("their number", x.writeTree(0), 6 + 1 + 4 + 15 * 10 + 14 + 2);
    }

    @Sentence(in = "Promise 62", says = "index of the byte, from 0")
    static void theFirstAndTheLastByte() {
        CrateScale x = new CrateScale();
        x.writeTree(3);
        Check.same("the first", x.outputByte(0), (int) 'f');
        Check.same("the colon", x.outputByte(3), 58);
        Check.same("the last", x.outputByte(5), (int) '0');
        x.writeTree(0);
        Check.same("the bracket", x.outputByte(8), 91);
        Check.same("the closing one", x.outputByte(24), 93);
    }

    @Sentence(in = "Promise 62", says = "NONE if there is no such byte")
    static void bytesOutsideOfTheOutput() {
        for (int index : new int[] {-1, 0, 1, Integer.MIN_VALUE, Integer.MAX_VALUE}) {
            Check.same("byte " + index + " of none", new CrateScale().outputByte(index), CrateScale.NONE);
        }
        CrateScale x = new CrateScale();
        x.writeTree(2);
        for (int index : new int[] {-1, 6, 7, 25, Integer.MIN_VALUE, Integer.MAX_VALUE}) {
            Check.same("byte " + index + " of six", x.outputByte(index), CrateScale.NONE);
        }
        Check.harmless("a byte", (int) 'a', Check::busy, y -> y.outputByte(0));
    }

    @Sentence(in = "Promise 63", says = "replacing an earlier saved state")
    static void savingTwice() {
        CrateScale x = Check.yard("crate a 1 0;buyer p 9 0 0;noise 50;seed 3;readings 1;");
        x.saveState();
        x.weigh(0);
        x.setAging(1);
        x.replaceSpring();
        x.weigh(0);
        x.saveState();
        String second = Check.view(x);
        x.setAmplitude(0);
        x.addGoods(0, 500);
        x.weigh(0);
        x.restoreState();
        Check.same("the second one", Check.view(x), second);
        Check.same("only the second one", x.restoreState(), 2);
    }

    @Sentence(in = "Promise 63", says = "Returns the number of stored readings of all crates.")
    static void readingsSaved() {
        CrateScale x = IndexBounds.full();
        Check.same("none", x.saveState(), 0);
        for (int i = 0; i < 16; i++) {
            x.weigh(i);
        }
        Check.same("one of each", x.saveState(), 16);
        x.addGoods(15, 1);
        Check.same("less a discarded one", x.saveState(), 15);
        CrateScale y = Check.busy();
        Check.same("with those of sold crates", y.saveState(), 9);
    }

    @Sentence(in = "Promise 63", says = "Saves crates, buyers, settings, spring, generator and totals")
    static void savingChangesNothing() {
        CrateScale x = Check.busy();
        String before = Check.view(x);
        x.saveState();
        Check.same("the yard", Check.view(x), before);
        Check.same("the changes", x.undo(), 2);
        x.undo();
        x.undo();
        x.restoreState();
        Check.same("all that was saved", Check.view(x), before);
        Check.same("the error, the output and the input", x.errorCode() + Check.output(x) + x.runScript(), "1a:502[b:2]2");
    }

    @Sentence(in = "Promise 64", says = "Restores the saved state, which remains saved.")
    static void restoringTwice() {
        CrateScale x = Check.busy();
        x.restoreState();
        String restored = Check.view(x);
        x.weigh(0);
        x.replaceSpring();
        x.setAging(100);
        x.restoreState();
        Check.same("the same again", Check.view(x), restored);
    }

    @Sentence(in = "Promise 64", says = "Nothing can be undone after that.")
    static void nothingToUndoAfterRestoring() {
        CrateScale x = Check.yard("crate a 1 0;noise 0;");
        Check.weighOften(x, 0, 9);
        x.saveState();
        x.restoreState();
        Check.element("nothing", () -> x.undo());
        x.weigh(0);
        Check.same("only what came after", x.undo(), 0);
        Check.same("the restored readings", x.readingCount(0), 9);
        Check.element("nothing again", () -> x.undo());
    }

    @Sentence(in = "Promise 64", says = "Returns the number of stored readings of all crates after that.")
    static void readingsRestored() {
        CrateScale x = IndexBounds.full();
        x.saveState();
        x.weigh(0);
        Check.same("none", x.restoreState(), 0);
        x.weigh(15);
        x.saveState();
        x.addGoods(15, 1);
        Check.same("one, which was discarded since", x.restoreState(), 1);
    }

    @Sentence(in = "Promise 64", says = "Throws `NoSuchElementException` if no state is saved")
    static void nothingIsSaved() {
        Check.refused("a new object", NoSuchElementException.class, CrateScale::new, x -> x.restoreState());
        Check.refused("a loaded yard", NoSuchElementException.class, OutputBounds::loaded, x -> x.restoreState());
        CrateScale x = Check.busy();
        x.truncateInput(0);
        Check.load(x, "?");
        Check.same("a refused load leaves it saved", x.restoreState(), 3);
        x.weigh(0);
        x.undo();
        Check.same("undo leaves it saved", x.restoreState(), 3);
    }

    private static CrateScale loaded() {
        CrateScale x = new CrateScale();
        x.saveState();
        Check.load(x, "crate a 1 0;");
        x.weigh(0);
        return x;
    }
}
