import java.util.function.Supplier;

/** The first and the last crate and buyer, and the indexes just outside, for each method that takes an index. */
final class IndexBounds {
    private interface Call {
        Object on(CrateScale x, int index);
    }

    private final Document document;

    private IndexBounds(Document document) {
        this.document = document;
    }

    static void all(Document document) {
        IndexBounds bounds = new IndexBounds(document);
        bounds.ofCratesAsked();
        bounds.ofCratesWeighed();
        bounds.ofCratesChanged();
        bounds.ofBuyers();
        bounds.ofBoth();
    }

    private void ofCratesAsked() {
        crates(10, (x, c) -> x.crateNameByte(c, 0));
        crates(12, (x, c) -> x.tareOf(c));
        crates(13, (x, c) -> x.goodsOf(c));
        crates(14, (x, c) -> x.grossOf(c));
        crates(15, (x, c) -> x.parentOf(c));
        crates(16, (x, c) -> x.depthOf(c));
        crates(17, (x, c) -> x.childCount(c));
        crates(18, (x, c) -> x.childOf(c, 0));
        crates(19, (x, c) -> x.isInYard(c));
        crates(20, (x, c) -> x.readingCount(c));
        crates(41, (x, c) -> x.bestBuyer(c));
        crates(61, (x, c) -> x.writeTree(c));
    }

    private void ofCratesWeighed() {
        crates(21, (x, c) -> x.lastReading(c));
        crates(22, (x, c) -> x.meanReading(c));
        crates(23, (x, c) -> x.meanError(c));
        crates(24, (x, c) -> x.exactMean(c));
        crates(31, (x, c) -> x.predictReading(c));
        crates(32, (x, c) -> x.predictMean(c, 1));
        crates(33, (x, c) -> x.readingsUntilWithin(c, 0));
        crates(34, (x, c) -> x.worstErrorWithin(c, 1));
    }

    private void ofCratesChanged() {
        crates(51, (x, c) -> x.weigh(c));
        crates(52, (x, c) -> x.addGoods(c, 1));
        crates(53, (x, c) -> x.removeGoods(c, 1));
        crates(54, (x, c) -> x.moveInto(c, 0));
        crates(54, (x, c) -> x.moveInto(0, c));
        crates(55, (x, c) -> x.takeOut(c));
    }

    private void ofBuyers() {
        buyers(11, "no such buyer", (x, b) -> x.buyerNameByte(b, 0));
        buyers(35, "no such buyer", (x, b) -> x.moneyOf(b));
        buyers(36, "no such buyer", (x, b) -> x.toleranceOf(b));
        buyers(37, "no such buyer", (x, b) -> x.trustOf(b));
        buyers(38, "no such buyer", (x, b) -> x.purchasesOf(b));
    }

    private void ofBoth() {
        crates(39, (x, c) -> x.refusalReason(c, 0));
        buyers(39, "no such crate or no such buyer", (x, b) -> x.refusalReason(0, b));
        crates(40, (x, c) -> x.refusalDetail(c, 0));
        buyers(40, "no such crate or no such buyer", (x, b) -> x.refusalDetail(0, b));
        crates(42, (x, c) -> x.trustAfterSale(c, 0));
        buyers(42, "no such crate or no such buyer", (x, b) -> x.trustAfterSale(0, b));
        crates(57, (x, c) -> x.sell(c, 0));
        buyers(57, "no such crate or no such buyer", (x, b) -> x.sell(0, b));
    }

    private void crates(int promise, Call call) {
        String what = told(promise, "no such crate") + " for crate ";
        refusedOutside(what, 4, Check::busy, call);
        edges(what, 4, Check::busy, call);
        edges(what, 1, () -> Check.yard("crate a 1 0;buyer a 9 0 0;"), call);
        edges(what, 16, IndexBounds::full, call);
    }

    private void buyers(int promise, String missing, Call call) {
        String what = told(promise, missing) + " for buyer ";
        refusedOutside(what, 2, Check::busy, call);
        edges(what, 2, Check::busy, call);
        edges(what, 0, () -> Check.yard("crate a 1 0;"), call);
        edges(what, 6, IndexBounds::full, call);
    }

    private String told(int promise, String missing) {
        String says = "Throws `IndexOutOfBoundsException` if there is " + missing;
        Check.isTrue("promise " + promise + " says: " + says, document.isTold("Promise " + promise, says));
        return "promise " + promise;
    }

    static CrateScale full() {
        return Check.yard(crates(16) + buyers(6));
    }

    static String crates(int count) {
        StringBuilder text = new StringBuilder();
        for (int i = 0; i < count; i++) {
            text.append("crate ").append((char) ('a' + i)).append(" 1 0;");
        }
        return text.toString();
    }

    static String buyers(int count) {
        StringBuilder text = new StringBuilder();
        for (int i = 0; i < count; i++) {
            text.append("buyer ").append((char) ('a' + i)).append(" 9 0 0;");
        }
        return text.toString();
    }

    private static void refusedOutside(String what, int count, Supplier<CrateScale> made, Call call) {
        Check.refused(what + -1, IndexOutOfBoundsException.class, made, x -> call.on(x, -1));
        Check.refused(what + count, IndexOutOfBoundsException.class, made, x -> call.on(x, count));
    }

    private static void edges(String what, int count, Supplier<CrateScale> made, Call call) {
        for (int index : new int[] {Integer.MIN_VALUE, -1, 0, count - 1, count, 16, 256, Integer.MAX_VALUE}) {
            boolean isThere = index >= 0 && index < count;
            Check.same(what + index + " of " + count, isFound(made.get(), index, call), isThere);
        }
    }

    private static boolean isFound(CrateScale x, int index, Call call) {
        try {
            call.on(x, index);
            return true;
        } catch (IndexOutOfBoundsException e) {
            return false;
        } catch (RuntimeException e) {
            return true;
        }
    }
}
