/** A yard with as many crates and buyers as there may be, each unlike the others, to see whom an answer is about. */
final class FullYard {
    static final String[] CRATES = {"a", "bc", "def", "ghij", "klmno", "pqrstu", "v", "w", "x", "y", "z", "za", "m", "n", "o",
        "zyxwvu"};
    static final String[] BUYERS = {"p", "qr", "stu", "vwxy", "zabcd", "efghij"};
    static final String TEXT = "crate a 1 10;crate bc 2 20 in a;crate def 3 30 in bc;crate ghij 4 40 in a;crate klmno 5 50;"
        + "crate pqrstu 6 60 in klmno;crate v 7 70 in pqrstu;crate w 8 80 in v;crate x 9 90 in w;crate y 10 100 in x;"
        + "crate z 11 110 in klmno;crate za 12 120 in klmno;crate m 13 130;crate n 14 140;crate o 15 150 in n;"
        + "crate zyxwvu 16 160;buyer p 100 1 10;buyer qr 9999 2 20;buyer stu 300 3 40;buyer vwxy 400 4 40;"
        + "buyer zabcd 160 5 50;buyer efghij 0 6 60;noise 3;seed 7;aging 4;readings 3;trust 15;";
    static final String TARES = "1 2 3 4 5 6 7 8 9 10 11 12 13 14 15 16";
    static final String GOODS = "10 20 30 40 50 60 70 80 90 100 110 120 130 140 150 160";
    static final String WEIGHTS = "110 55 33 44 748 440 374 297 209 110 121 132 143 319 165 176";
    static final String PARENTS = "-1 0 1 0 -1 4 5 6 7 8 4 4 -1 -1 13 -1";
    static final String DEPTHS = "0 1 2 1 0 1 2 3 4 5 1 1 0 0 1 0";

    interface Question {
        Object about(int index);
    }

    private FullYard() {
    }

    static CrateScale made() {
        return Check.yard(TEXT);
    }

    /**
     * No noise, and a sag that grows with each of 31 readings: one of a, two of bc, three of def, one of ghij and so on.
     * The sags of a crate are 0, or 1 and 2, or 3 to 5, or 6, or 7 and 8, and so on. One reading is enough for a sale.
     */
    static CrateScale weighed() {
        CrateScale x = Check.yard(TEXT.replace("readings 3", "readings 1"));
        StringBuilder script = new StringBuilder("noise 0;aging 1;");
        for (int i = 0; i < CRATES.length; i++) {
            script.append("weigh ").append(CRATES[i]).append(' ').append(i % 3 + 1).append(';');
        }
        Check.run(x, script.toString());
        return x;
    }

    /** The answers about each crate, one behind the other. */
    static String ofCrates(Question question) {
        return answers(CRATES.length, question);
    }

    static String ofBuyers(Question question) {
        return answers(BUYERS.length, question);
    }

    private static String answers(int count, Question question) {
        StringBuilder text = new StringBuilder();
        for (int i = 0; i < count; i++) {
            text.append(i == 0 ? "" : " ").append(question.about(i));
        }
        return text.toString();
    }
}
