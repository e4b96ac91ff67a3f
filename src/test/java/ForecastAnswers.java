/** What readings are made of, and what predictions answer: section 2 of the terms and promises 31 to 34 and 42. */
final class ForecastAnswers {
    private ForecastAnswers() {
    }

    /** Some crates with an unfinished pair, some without, some without a reading. */
    private static CrateScale restless() {
        CrateScale x = FullYard.made();
        Check.run(x, "noise 20;aging 3;weigh a 1;weigh bc 2;weigh x 3;weigh o 1;weigh zyxwvu 4;noise 50;");
        return x;
    }

    @Sentence(in = "Terms 2", says = "A reading of a crate is its gross weight plus the sag plus an error term.")
    static void partsOfAReading() {
        CrateScale x = Check.yard("crate a 10 200;crate b 3 40 in a;noise 50;seed 65;aging 1;");
        Check.same("a gross weight of 253, no sag, an error of -50", x.weigh(0), 253 - 50);
        Check.same("a gross weight of 43, a sag of 1, an error of 43564 mod 101 - 50", x.weigh(1), 43 + 1 - 17);
        Check.same("the sag of 2 and the error of 50", x.weigh(0), 253 + 2 + 50);
        x.addGoods(1, 7);
        x.setAmplitude(0);
        Check.same("without noise", x.weigh(0), 260 + 3);
        x.replaceSpring();
        Check.same("without a sag", x.weigh(1), 50);
    }

    @Sentence(in = "Terms 2", says = "The readings of a crate form pairs.")
    static void pairsOfEachCrate() {
        CrateScale x = Check.yard("crate a 50 0;crate b 50 0;noise 50;seed 7;aging 100;");
        int[] errors = new int[12];
        int[] order = {0, 1, 1, 1, 0, 0, 1, 0, 1, 0, 0, 1};
        for (int i = 0; i < 12; i++) {
            errors[i] = x.weigh(order[i]) - 50;
        }
        Check.same("1 and 2 of a", errors[4], -errors[0]);
        Check.same("3 and 4 of a", errors[7], -errors[5]);
        Check.same("5 and 6 of a", errors[10], -errors[9]);
        Check.same("1 and 2 of b", errors[2], -errors[1]);
        Check.same("3 and 4 of b", errors[6], -errors[3]);
        Check.same("5 and 6 of b", errors[11], -errors[8]);
        Check.same("six noises", errors[0] + " " + errors[1] + " " + errors[3] + " " + errors[5] + " " + errors[8] + " " + errors[9],
            noises(7, 6));
    }

    private static String noises(int seed, int count) {
        StringBuilder text = new StringBuilder();
        long state = seed;
        for (int i = 0; i < count; i++) {
            state = (75 * state + 74) % 65537;
            text.append(i == 0 ? "" : " ").append(state % 101 - 50);
        }
        return text.toString();
    }

    @Sentence(in = "Promise 31", says = {"Predicts the next reading of a crate.", "- `crate`: index of a crate"})
    static void nextReadingOfEachCrate() {
        CrateScale x = restless();
        for (int c = 0; c < 16; c++) {
            Check.same("next reading of crate " + c, x.predictReading(c), restless().weigh(c));
        }
    }

    @Sentence(in = "Promise 32", says = {"Predicts the mean reading of a crate after more readings of that crate.",
        "- `crate`: index of a crate", "Returns the mean reading after them."})
    static void nextMeansOfEachCrate() {
        CrateScale x = restless();
        for (int c = 0; c < 16; c++) {
            CrateScale y = restless();
            for (int readings = 1; readings <= 6; readings++) {
                y.weigh(c);
                Check.same("crate " + c + " after " + readings, x.predictMean(c, readings), y.meanReading(c));
            }
        }
    }

    @Sentence(in = "Promise 33", says = {"- `crate`: index of a crate"})
    static void readingsUntilEachCrateIsWithin() {
        CrateScale x = restless();
        for (int c = 0; c < 16; c++) {
            for (int tolerance : new int[] {0, 1, 5, 30}) {
                int due = weighedUntilWithin(restless(), c, tolerance);
                Check.same("crate " + c + " within " + tolerance, x.readingsUntilWithin(c, tolerance), due);
            }
        }
    }

    private static int weighedUntilWithin(CrateScale x, int crate, int tolerance) {
        if (x.readingCount(crate) > 0 && Math.abs(x.meanError(crate)) <= tolerance) {
            return 0;
        }
        for (int i = 1; i <= 100; i++) {
            x.weigh(crate);
            if (Math.abs(x.meanError(crate)) <= tolerance) {
                return i;
            }
        }
        return CrateScale.NONE;
    }

    @Sentence(in = "Promise 34", says = {"- `crate`: index of a crate"})
    static void worstErrorOfEachCrate() {
        CrateScale x = restless();
        for (int c = 0; c < 16; c++) {
            CrateScale y = restless();
            int worst = 0;
            for (int readings = 1; readings <= 8; readings++) {
                y.weigh(c);
                worst = Math.max(worst, Math.abs(y.meanError(c)));
                Check.same("crate " + c + " over " + readings, x.worstErrorWithin(c, readings), worst);
            }
        }
    }

    @Sentence(in = "Promise 42", says = {"Predicts the trust of a buyer after buying a crate.", "- `crate`: index of a crate",
        "- `buyer`: index of a buyer", "Returns the trust after the sale."})
    static void trustOfEachBuyerAfterEachSale() {
        String[] due = {"- - - - - - - - - - - - - - - -", "25 - - - 14 - - - - - - - 0 0 - 0",
            "45 - - - - - - - - - - - 19 - - 13", "45 - - - - - - - - - - - 20 18 - 14",
            "55 - - - - - - - - - - - - - - -", "- - - - - - - - - - - - - - - -"};
        CrateScale x = FullYard.weighed();
        for (int b = 0; b < 6; b++) {
            int buyer = b;
            Check.same("trust of buyer " + b, FullYard.ofCrates(c -> trust(x, c, buyer)), due[b]);
        }
        for (int[] sale : new int[][] {{0, 1}, {4, 1}, {12, 2}, {13, 3}, {15, 3}, {0, 4}}) {
            CrateScale y = FullYard.weighed();
            y.sell(sale[0], sale[1]);
            Check.same("trust of buyer " + sale[1] + " when crate " + sale[0] + " is sold", y.trustOf(sale[1]),
                x.trustAfterSale(sale[0], sale[1]));
        }
    }

    private static Object trust(CrateScale x, int crate, int buyer) {
        return x.refusalReason(crate, buyer) == 0 ? x.trustAfterSale(crate, buyer) : "-";
    }
}
