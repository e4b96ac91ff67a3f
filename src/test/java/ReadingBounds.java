/** The boundaries of readings: section 2 of the terms and promises 20 to 26 and 43 to 45. */
final class ReadingBounds {
    private ReadingBounds() {
    }

    /** The document's step of the generator, in long. */
    private static int step(int state) {
        return (int) ((75L * state + 74) % 65537);
    }

    private static CrateScale seeded(int seed, int amplitude) {
        return Check.yard("crate a 1 0;crate b 1 0;aging 100;noise " + amplitude + ";seed " + seed + ";");
    }

    @Sentence(in = "Terms", says = "every even number of readings of a crate gives an exact mean")
    static void evenNumbersWhileTheSagIsZero() {
        CrateScale x = seeded(3, 50);
        for (int i = 2; i <= 100; i += 2) {
            Check.weighOften(x, 0, 2);
            Check.same("exact after " + i, x.exactMean(0), 1.0);
        }
        Check.weighOften(x, 0, 2);
        Check.same("not with the sags of readings 101 and 102", x.exactMean(0), 104.0 / 102.0);
        CrateScale odd = seeded(65, 50);
        odd.weigh(0);
        Check.same("nor with an odd number", odd.exactMean(0), -49.0);
    }

    @Sentence(in = "Terms 2", says = "The generator has a state of 0 to 65536.")
    static void statesNextToTheEnds() {
        Check.same("from 0 to 74", seeded(0, 50).weigh(0), 1 + 74 - 50);
        for (int seed : new int[] {3160, 6321, 6808}) {
            CrateScale x = seeded(seed, 50);
            int state = seed;
            for (int i = 0; i < 40; i++) {
                state = step(state);
                Check.same("step " + i + " to " + state, x.weigh(0), 1 + state % 101 - 50);
                x.weigh(0);
            }
        }
    }

    @Sentence(in = "Terms 2", says = "One step replaces the state s by (75 * s + 74) mod 65537.")
    static void stepsAroundTheWrap() {
        Check.same("75 * 872 + 74 = 65474", seeded(872, 50).weigh(0), 1 + 65474 % 101 - 50);
        Check.same("75 * 873 + 74 = 65537 + 12", seeded(873, 50).weigh(0), 1 + 12 - 50);
        Check.same("75 * 6115 + 74 = 7 * 65537 - 60", seeded(6115, 50).weigh(0), 1 + 65477 % 101 - 50);
        Check.same("75 * 6116 + 74 = 7 * 65537 + 15", seeded(6116, 50).weigh(0), 1 + 15 - 50);
        Check.same("75 * 9999 + 74 = 11 * 65537 + 29092", seeded(9999, 50).weigh(0), 1 + 29092 % 101 - 50);
        for (int seed = 0; seed < 9999; seed += 97) {
            Check.same("seed " + seed, seeded(seed, 49).weigh(0), 1 + step(seed) % 99 - 49);
        }
    }

    @Sentence(in = "Terms 2", says = "The noise of a step is (new state mod (2 * amplitude + 1)) - amplitude")
    static void leastAndGreatestNoise() {
        Check.same("-50 of 50", seeded(65, 50).weigh(0), 1 - 50);
        Check.same("50 of 50", seeded(100, 50).weigh(0), 1 + 50);
        Check.same("0 of 50", seeded(32, 50).weigh(0), 1);
        Check.same("-1 of 1", seeded(873, 1).weigh(0), 1 - 1);
        Check.same("0 of 1", seeded(1747, 1).weigh(0), 1);
        Check.same("1 of 1", seeded(0, 1).weigh(0), 1 + 1);
    }

    @Sentence(in = "Terms 2", says = "where the amplitude is 0 to 50")
    static void amplitudeZeroStepsAllTheSame() {
        CrateScale x = seeded(7, 0);
        Check.same("no noise", x.weigh(0), 1);
        Check.same("no noise of the second", x.weigh(0), 1);
        x.setAmplitude(50);
        Check.same("the second step", x.weigh(0), 1 + step(step(7)) % 101 - 50);
        Check.same("the greatest amplitude", x.amplitude(), 50);
        Check.loadError("noise 51;", CrateScale.OUT_OF_RANGE, 6);
    }

    @Sentence(in = "Terms 2", says = "The spring has an age, which is 0 for a new spring.")
    static void newSprings() {
        CrateScale x = new CrateScale();
        Check.same("of a new object", x.springAge(), 0);
        x.weigh(0);
        x.replaceSpring();
        Check.same("of a replaced one", x.springAge(), 0);
        x.weigh(0);
        Check.run(x, "spring;");
        Check.same("of one replaced by a script", x.springAge(), 0);
        x.weigh(0);
        Check.load(x, "crate a 1 0;");
        Check.same("of a loaded yard", x.springAge(), 0);
    }

    @Sentence(in = "Terms 2", says = "its age divided by the aging, rounded down")
    static void sagsAroundEachMultipleOfTheAging() {
        CrateScale x = Check.yard("crate a 1 0;noise 0;aging 3;");
        for (int age = 0; age <= 10; age++) {
            Check.same("age " + age + " of 3", x.springSag(), age / 3);
            Check.same("the reading at age " + age, x.weigh(0), 1 + age / 3);
        }
    }

    @Sentence(in = "Terms 2", says = "where the aging is 1 to 100")
    static void agingOfOneAndOneHundred() {
        CrateScale x = Check.yard("crate a 1 0;noise 0;aging 100;");
        Check.run(x, "weigh a 49;weigh a 50;");
        Check.same("age 99 of 100", x.springSag(), 0);
        Check.same("its reading", x.weigh(0), 1);
        Check.same("age 100 of 100", x.springSag(), 1);
        Check.run(x, "weigh a 49;weigh a 50;");
        Check.same("age 199 of 100", x.springSag(), 1);
        x.weigh(0);
        Check.same("age 200 of 100", x.springSag(), 2);
        x.setAging(1);
        Check.same("age 200 of 1", x.springSag(), 200);
        Check.same("its reading", x.weigh(0), 201);
        Check.same("age 201 of 1", x.springSag(), 201);
    }

    @Sentence(in = "Terms 2", says = "The first reading of a pair makes one step of the generator")
    static void firstReadingsStepOnceForEachCrate() {
        CrateScale x = seeded(7, 50);
        int first = step(7);
        int second = step(first);
        Check.same("the first of a", x.weigh(0), 1 + first % 101 - 50);
        Check.same("the first of b", x.weigh(1), 1 + second % 101 - 50);
        Check.same("the second of a", x.weigh(0), 1 - (first % 101 - 50));
        Check.same("the third of a is a first one again", x.weigh(0), 1 + step(second) % 101 - 50);
        Check.same("the second of b", x.weigh(1), 1 - (second % 101 - 50));
    }

    @Sentence(in = "Terms 2", says = "The second reading of a pair makes no step, and its error term is the negated error term")
    static void secondReadingsAfterOtherAmplitudes() {
        CrateScale x = seeded(65, 50);
        x.weigh(0);
        x.setAmplitude(0);
        Check.same("an error of -50, and then no noise", x.weigh(0), 1 + 50);
        CrateScale y = seeded(65, 0);
        y.weigh(0);
        y.setAmplitude(50);
        Check.same("an error of 0, and then much noise", y.weigh(0), 1);
        Check.same("one step was made", y.weigh(0), 1 + step(step(65)) % 101 - 50);
        CrateScale z = seeded(65, 50);
        z.weigh(0);
        z.replaceSpring();
        z.weigh(1);
        Check.same("another crate and another spring in between", z.weigh(0), 1 + 50);
    }

    @Sentence(in = "Terms 2", says = "The sag of a reading is computed before the age grows by 1.")
    static void readingsAtTheAgeOfANewSag() {
        CrateScale x = Check.yard("crate a 1 0;noise 0;aging 2;");
        Check.same("age 0", x.weigh(0), 1);
        Check.same("age 1 becomes 2 by this reading", x.weigh(0), 1);
        Check.same("age 2", x.weigh(0), 2);
        x.setAging(1);
        x.replaceSpring();
        Check.same("a new spring of aging 1", x.weigh(0), 1);
        Check.same("its age is 1 now", x.weigh(0), 2);
    }

    @Sentence(in = "Terms 2", says = "A reading can be negative.")
    static void readingsNextToZero() {
        Check.same("1", seeded(32, 50).weigh(0), 1);
        Check.same("0", seeded(67, 50).weigh(0), 0);
        CrateScale x = seeded(1, 50);
        Check.same("-1, as NONE", x.weigh(0), -1);
        Check.same("-1 is stored", x.lastReading(0), -1);
        Check.same("the least of all", seeded(65, 50).weigh(0), -49);
    }

    @Sentence(in = "Terms 2", says = "stores for each crate the number of its readings, their sum, the latest one")
    static void readingsOfTwoCratesByTurns() {
        CrateScale x = Check.yard("crate a 10 0;crate b 20 0;noise 0;aging 1;");
        for (int i = 0; i < 3; i++) {
            x.weigh(0);
            x.weigh(1);
        }
        Check.same("numbers", x.readingCount(0) + " " + x.readingCount(1), "3 3");
        Check.same("means of 10, 12, 14 and 21, 23, 25", x.exactMean(0) + " " + x.exactMean(1), "12.0 23.0");
        Check.same("latest ones", x.lastReading(0) + " " + x.lastReading(1), "14 25");
    }

    private static String counts(CrateScale x) {
        StringBuilder text = new StringBuilder();
        for (int i = 0; i < x.crateCount(); i++) {
            text.append(x.readingCount(i)).append(' ');
        }
        return text.toString().strip();
    }

    private static CrateScale weighedAll(String text) {
        CrateScale x = Check.yard(text);
        for (int i = 0; i < x.crateCount(); i++) {
            Check.weighOften(x, i, 1 + i % 2);
        }
        return x;
    }

    @Sentence(in = "Terms 2", says = "discards the stored readings of that crate and of all its ancestors")
    static void goodsDiscardUpToTheOutermost() {
        String text = YardBounds.DEEP + "crate g 1 9 in a;";
        CrateScale x = weighedAll(text);
        x.addGoods(5, 1);
        Check.same("added to the deepest: all but its neighbour", counts(x), "0 0 0 0 0 0 1");
        Check.same("discarded", x.totalDiscarded(), 9);
        CrateScale y = weighedAll(text);
        y.addGoods(0, 1);
        Check.same("added to the outermost: it alone", counts(y), "0 2 1 2 1 2 1");
        y.removeGoods(0, 1);
        Check.same("nothing left to discard", y.totalDiscarded(), 1);
        CrateScale z = weighedAll(text);
        z.removeGoods(6, 1);
        Check.same("removed from the neighbour", counts(z), "0 2 1 2 1 2 0");
    }

    @Sentence(in = "Terms 2", says = "discards the stored readings of its former ancestors and of its new ancestors, but not its own")
    static void movesDiscardOnBothWays() {
        String text = "crate a 1 0;crate b 1 0 in a;crate c 1 0 in b;crate d 1 0 in c;crate x 1 0;crate y 1 0 in x;"
            + "crate z 1 0 in y;";
        CrateScale x = weighedAll(text);
        x.moveInto(2, 6);
        Check.same("from a, b to x, y, z", counts(x), "0 0 1 2 0 0 0");
        CrateScale y = weighedAll(text);
        y.moveInto(3, 1);
        Check.same("out of c into b, where a stays above", counts(y), "0 0 0 2 1 2 1");
        Check.same("each once", y.totalDiscarded(), 1 + 2 + 1);
        CrateScale z = weighedAll(text);
        z.moveInto(0, 4);
        Check.same("a top-level crate has no former ancestors", counts(z), "1 2 1 2 0 2 1");
        CrateScale out = weighedAll(text);
        out.takeOut(2);
        Check.same("taken out of a and b", counts(out), "0 0 1 2 1 2 1");
    }

    @Sentence(in = "Terms 2", says = "an unfinished pair of that crate is discarded, too")
    static void pairsEndWithTheirReadings() {
        CrateScale x = seeded(7, 50);
        x.weigh(0);
        x.addGoods(0, 1);
        Check.same("an unfinished pair is gone", x.weigh(0), 2 + step(step(7)) % 101 - 50);
        CrateScale y = seeded(7, 50);
        Check.weighOften(y, 0, 2);
        y.addGoods(0, 1);
        Check.same("a finished one makes a first one follow, too", y.weigh(0), 2 + step(step(7)) % 101 - 50);
        CrateScale z = seeded(7, 50);
        Check.weighOften(z, 1, 1);
        z.moveInto(0, 1);
        Check.same("of an ancestor, by a move", z.weigh(1), 2 + step(step(7)) % 101 - 50);
        CrateScale kept = seeded(7, 50);
        kept.weigh(0);
        kept.moveInto(0, 1);
        Check.same("the moved crate keeps its own", kept.weigh(0), 1 - (step(7) % 101 - 50));
    }

    @Sentence(in = "Terms 2", says = "rounded to the nearest integer, with halves rounded up (towards positive infinity)")
    static void meansNextToAHalf() {
        CrateScale x = Check.yard("crate a 1 0;noise 0;aging 1;");
        Check.weighOften(x, 0, 2);
        Check.same("3 / 2", x.meanReading(0), 2);
        CrateScale y = Check.yard("crate a 1 0;crate b 1 0;noise 0;aging 1;");
        Check.weighOften(y, 0, 1);
        y.weigh(1);
        y.setAging(3);
        Check.weighOften(y, 0, 2);
        Check.same("(1 + 1 + 2) / 3", y.meanReading(0), 1);
        y.weigh(0);
        y.weigh(0);
        y.weigh(0);
        Check.same("(1 + 1 + 2 + 2 + 2 + 3) / 6 = 11 / 6", y.meanReading(0), 2);
    }

    /** One pair of 1 + e and 1 - e and then a reading below 0. A mean below 0 is never a half. */
    @Sentence(in = "Promise 22", says = "Returns the rounded mean (section 2).")
    static void meansBelowZero() {
        int[][] seedsAndMeans = {{267, 0}, {4, 0}, {139, -1}, {385, -1}, {11, -1}, {257, -2}, {31, -2}};
        for (int i = 0; i < seedsAndMeans.length; i++) {
            CrateScale x = seeded(seedsAndMeans[i][0], 50);
            Check.weighOften(x, 0, 3);
            Check.same("the sum", x.exactMean(0), (double) -i / 3.0 + 0.0);
            Check.same("the mean of -" + i + " / 3", x.meanReading(0), seedsAndMeans[i][1]);
        }
    }

    /** As many readings of as heavy a crate as 512 calls allow: twice their sum is beyond an int. */
    @Sentence(in = "Promise 22", says = "Returns the mean reading of a crate.")
    static void meanOfAsManyReadingsAsCanBe() {
        StringBuilder text = new StringBuilder("noise0;aging1;crate a50 500;");
        for (int i = 1; i < 16; i++) {
            text.append("crate ").append((char) ('a' + i)).append("50 500in a;");
        }
        CrateScale x = Check.yard(text.toString());
        for (int i = 0; i < 28; i++) {
            Check.run(x, "weigh a50;".repeat(30));
        }
        Check.same("42000 readings", x.readingCount(0), 42000);
        Check.same("the mean of 8800 and sags of 0 to 41999", x.meanReading(0), 8800 + 21000);
        Check.same("the exact mean", x.exactMean(0), 8800 + 20999.5);
        Check.same("the latest", x.lastReading(0), 8800 + 41999);
        Check.same("the error", x.meanError(0), 21000);
        Check.same("one more", x.predictMean(0, 1), 8800 + 21000);
        Check.same("the worst of a hundred more", x.worstErrorWithin(0, 100), 21050);
        Check.isTrue("consistent", x.isConsistent());
    }

    @Sentence(in = "Promise 21", says = "Returns the latest stored reading of a crate.")
    static void latestAfterUndo() {
        CrateScale x = seeded(65, 50);
        x.weigh(0);
        x.weigh(0);
        Check.same("the second", x.lastReading(0), 51);
        x.undo();
        Check.same("the first again", x.lastReading(0), -49);
        x.undo();
        Check.element("none again", () -> x.lastReading(0));
    }

    @Sentence(in = "Promise 20", says = "Returns the number of stored readings of a crate.")
    static void countsFromNoneToManyAndBack() {
        CrateScale x = seeded(7, 50);
        Check.same("none", x.readingCount(0), 0);
        x.weigh(0);
        Check.same("one", x.readingCount(0), 1);
        Check.run(x, "weigh a50;".repeat(30));
        Check.same("a whole script more", x.readingCount(0), 1501);
        x.undo();
        Check.same("one again", x.readingCount(0), 1);
        x.undo();
        Check.same("none again", x.readingCount(0), 0);
    }

    private static CrateScale discarded() {
        CrateScale x = Check.busy();
        x.addGoods(1, 1);
        return x;
    }

    @Sentence(in = "Promise 21", says = "Throws `NoSuchElementException` if the crate has no stored readings")
    static void noLatestReading() {
        Check.element("of a new object", () -> new CrateScale().lastReading(0));
        Check.refused("of a discarded one", java.util.NoSuchElementException.class, ReadingBounds::discarded,
            x -> x.lastReading(1));
        Check.same("of one", Check.busy().lastReading(1), 10);
        Check.same("of a sold one", Check.busy().lastReading(2), 99);
        Check.range("no crate comes first", () -> discarded().lastReading(4));
    }

    @Sentence(in = "Promise 22", says = "Throws `NoSuchElementException` if the crate has no stored readings")
    static void noMeanReading() {
        Check.element("of a new object", () -> new CrateScale().meanReading(0));
        Check.refused("of a discarded one", java.util.NoSuchElementException.class, ReadingBounds::discarded,
            x -> x.meanReading(1));
        Check.same("of one", Check.busy().meanReading(1), 10);
        Check.same("of a sold one", Check.busy().meanReading(2), 101);
        Check.range("no crate comes first", () -> discarded().meanReading(4));
    }

    @Sentence(in = "Promise 23", says = "Throws `NoSuchElementException` if the crate has no stored readings")
    static void noMeanError() {
        Check.element("of a new object", () -> new CrateScale().meanError(0));
        Check.refused("of a discarded one", java.util.NoSuchElementException.class, ReadingBounds::discarded,
            x -> x.meanError(1));
        Check.same("of one", Check.busy().meanError(1), 8);
        Check.same("of a sold one", Check.busy().meanError(2), 2);
        Check.range("no crate comes first", () -> discarded().meanError(4));
    }

    @Sentence(in = "Promise 24", says = "Throws `NoSuchElementException` if the crate has no stored readings")
    static void noExactMean() {
        Check.element("of a new object", () -> new CrateScale().exactMean(0));
        Check.refused("of a discarded one", java.util.NoSuchElementException.class, ReadingBounds::discarded,
            x -> x.exactMean(1));
        Check.same("of one", Check.busy().exactMean(1), 10.0);
        Check.same("of a sold one", Check.busy().exactMean(2), 100.5);
        Check.range("no crate comes first", () -> discarded().exactMean(4));
    }

    @Sentence(in = "Promise 24", says = "without rounding to an integer")
    static void exactMeansOfOneTwoAndThree() {
        CrateScale x = Check.yard("crate a 1 0;noise 0;aging 2;");
        x.weigh(0);
        Check.same("1 / 1", x.exactMean(0), 1.0);
        Check.weighOften(x, 0, 2);
        Check.same("4 / 3", x.exactMean(0), 4.0 / 3.0);
        x.weigh(0);
        Check.same("6 / 4", x.exactMean(0), 1.5);
        CrateScale y = seeded(1, 50);
        y.weigh(0);
        Check.same("-1 / 1", y.exactMean(0), -1.0);
    }

    @Sentence(in = "Promise 25", says = "Returns the number of readings since the spring was new.")
    static void ageOfAScriptsReadings() {
        CrateScale x = seeded(7, 50);
        Check.run(x, "weigh a50;weigh b1;spring;weigh a1;weigh b50;");
        Check.same("of both crates, since the spring was replaced", x.springAge(), 51);
        x.addGoods(0, 1);
        Check.same("discarded ones count", x.springAge(), 51);
        x.undo();
        x.undo();
        Check.same("undone", x.springAge(), 0);
    }

    @Sentence(in = "Promise 43", says = "including discarded ones")
    static void totalOfReadingsThatAreAllDiscarded() {
        CrateScale x = seeded(7, 50);
        Check.same("none", x.totalReadings(), 0);
        x.weigh(0);
        x.addGoods(0, 1);
        Check.same("one, discarded", x.totalReadings(), 1);
        Check.run(x, "weigh a50;".repeat(30));
        x.addGoods(0, 1);
        Check.same("and a whole script", x.totalReadings(), 1501);
        Check.same("all discarded", x.totalDiscarded(), 1501);
        Check.load(x, "crate a 1 0;");
        Check.same("none since the load", x.totalReadings(), 0);
    }

    @Sentence(in = "Promise 44", says = "Returns the number of readings that were discarded since the setup was loaded.")
    static void discardingNoneOneAndAll() {
        CrateScale x = Check.yard("crate a 1 0;crate b 1 0 in a;crate c 1 0;");
        Check.same("none", x.totalDiscarded(), 0);
        x.addGoods(1, 1);
        Check.same("none, as there were none", x.totalDiscarded(), 0);
        x.weigh(0);
        x.weigh(1);
        x.weigh(2);
        x.moveInto(1, 0);
        Check.same("one, of the parent", x.totalDiscarded(), 1);
        x.removeGoods(1, 1);
        Check.same("one more, of the crate itself", x.totalDiscarded(), 2);
        x.moveInto(0, 2);
        Check.same("all", x.totalDiscarded() + " " + x.totalReadings(), "3 3");
        x.undo();
        Check.same("undone", x.totalDiscarded(), 2);
    }

    @Sentence(in = "Promise 45", says = "Returns the number of springs that were replaced since the setup was loaded.")
    static void springsOfAWholeScript() {
        CrateScale x = seeded(7, 50);
        Check.same("none", x.springsReplaced(), 0);
        Check.run(x, "spring;".repeat(30));
        Check.same("thirty", x.springsReplaced(), 30);
        x.replaceSpring();
        Check.same("thirty-one", x.springsReplaced(), 31);
        x.undo();
        x.undo();
        Check.same("none again", x.springsReplaced(), 0);
    }

    @Sentence(in = "Promise 45", says = "Returns the number of replacements.")
    static void springsSinceALoad() {
        CrateScale x = seeded(7, 50);
        x.replaceSpring();
        Check.load(x, "crate 7;");
        Check.same("a refused load leaves it", x.springsReplaced(), 1);
        Check.load(x, "crate a 1 0;");
        Check.same("a load does not", x.springsReplaced(), 0);
    }
}
