/** What the input buffer and a plain setup text do: promises 2 and 3 and a line of section 4 of the terms. */
final class TextAnswers {
    private TextAnswers() {
    }

    private static int word(String four) {
        return four.charAt(0) << 24 | four.charAt(1) << 16 | four.charAt(2) << 8 | four.charAt(3);
    }

    private static CrateScale loaded(String text) {
        CrateScale x = new CrateScale();
        for (int at = 0; at < text.length(); at += 20) {
            x.appendInput(word(text.substring(at, at + 4)), word(text.substring(at + 4, at + 8)), word(text.substring(at + 8, at + 12)),
                word(text.substring(at + 12, at + 16)), word(text.substring(at + 16, at + 20)));
        }
        x.loadYard();
        return x;
    }

    @Sentence(in = "Promise 2", says = {"- `a`: first four bytes", "- `b`: next four bytes", "- `c`: next four bytes",
        "- `d`: next four bytes", "- `e`: last four bytes"})
    static void placesOfTheFiveParameters() {
        CrateScale x = loaded("crate bcde 12 345 ; ");
        Check.same("a to e in one crate", Check.tree(x, 0) + " " + x.tareOf(0) + " " + x.goodsOf(0), "bcde:357 12 345");
        CrateScale y = loaded("crate a 1 2;noise 7;aging 3;crate b 4 5;");
        Check.same("a to e, twice", Check.tree(y, 0) + " " + Check.tree(y, 1) + " " + y.amplitude() + " " + y.aging(), "a:3 b:9 7 3");
        String text = "crate a 1 0;        ";
        for (int at = 12; at < 20; at++) {
            CrateScale z = loaded(text.substring(0, at) + "?" + text.substring(at + 1));
            Check.same("offset of the byte that belongs to no token", z.errorOffset(), at);
        }
    }

    @Sentence(in = "Promise 3", says = "Truncates the input buffer.")
    static void theFirstBytesStay() {
        for (int length = 0; length <= 20; length++) {
            CrateScale x = new CrateScale();
            Check.type(x, "crate a 1 0;noise 7;");
            Check.isTrue("truncated to " + length, x.truncateInput(length));
            Check.isTrue("no longer than " + length, !x.truncateInput(length + 1));
            Check.same("load of the first " + length, x.loadYard(), length == 12 || length == 20 ? 1 : CrateScale.NONE);
            int due = length == 0 ? CrateScale.NO_CRATE : length == 12 || length == 20 ? CrateScale.NO_ERROR : CrateScale.SYNTAX;
            Check.same("error of the first " + length, x.errorCode(), due);
        }
    }

    @Sentence(in = "Terms 4", says = "crate NAME N N   (tare weight, goods weight; a top-level crate)")
    static void cratesOnTheTopLevel() {
        CrateScale x = Check.yard("crate a 7 30;crate b 8 40;crate c 9 50 in b;crate d 10 60;");
        for (int c : new int[] {0, 1, 3}) {
            Check.same("tare and goods of crate " + c, x.tareOf(c) + " " + x.goodsOf(c), (7 + c) + " " + (30 + 10 * c));
            Check.same("its parent and depth", x.parentOf(c) + " " + x.depthOf(c), "-1 0");
        }
    }
}
