import java.util.NoSuchElementException;

/** A yard of nested crates, one noisy spring scale, and buyers whose trust depends on its errors. */
public final class CrateScale {
    public static final int NONE = -1;
    public static final int NO_ERROR = 0;
    public static final int SYNTAX = 1;
    public static final int OUT_OF_RANGE = 2;
    public static final int DUPLICATE_NAME = 3;
    public static final int UNKNOWN_NAME = 4;
    public static final int TOO_DEEP = 5;
    public static final int TOO_MANY = 6;
    public static final int NO_CRATE = 7;

    private static final int MAX_CRATES = 16;
    private static final int MAX_BUYERS = 6;
    private static final int MAX_STATEMENTS = 30;
    private static final int MAX_DEPTH = 5;
    private static final int MAX_CHANGES = 8;
    private static final int MAX_TEXT = 600;
    private static final int BYTES_APPENDED = 20;
    private static final int MAX_WORD = 8;
    private static final int MAX_DIGITS = 4;
    private static final int MAX_NAME = 6;
    private static final int MAX_MONEY = 9999;
    private static final int MAX_SEED = 9999;
    private static final int MAX_TARE = 50;
    private static final int MAX_GOODS = 500;
    private static final int MAX_AMPLITUDE = 50;
    private static final int MAX_AGING = 100;
    private static final int MAX_TOLERANCE = 50;
    private static final int MAX_TRUST = 100;
    private static final int MAX_REQUIRED_READINGS = 9;
    private static final int MAX_WEIGHINGS = 50;
    private static final int MAX_PREDICTED = 100;
    private static final int TRUST_GAIN = 5;

    private static final int ACCEPTED = 0;
    private static final int NOT_IN_YARD = 1;
    private static final int INSIDE_ANOTHER = 2;
    private static final int TOO_FEW_READINGS = 3;
    private static final int TOO_LITTLE_TRUST = 4;
    private static final int TOO_LITTLE_MONEY = 5;

    private static final String FIRST_CRATES =
        "crate apple 3 20;crate pear 2 15 in apple;crate plum 5 0;crate fig 1 9 in pear;";
    private static final String FIRST_BUYERS = "buyer amy 200 3 50;buyer ben 60 1 80;";
    private static final String FIRST_SETTINGS = "noise 4;seed 7;aging 10;readings 2;trust 30;";

    private final Yard yard;
    private final Yard saved;
    private final Yard draft;
    private final History history;
    private final Text input;
    private final Setup setup;
    private final Script script;
    private final StringBuilder output;
    // Predictions weigh this crate on this scale, so that the yard itself stays as it is.
    private final Crate trialCrate;
    private final Scale trialScale;
    private boolean hasSaved;

    public CrateScale() {
        yard = new Yard();
        saved = new Yard();
        draft = new Yard();
        history = new History();
        input = new Text();
        setup = new Setup(input, draft);
        script = new Script(input, yard);
        output = new StringBuilder();
        trialCrate = new Crate(0);
        trialScale = new Scale();
        input.appendText(FIRST_CRATES);
        input.appendText(FIRST_BUYERS);
        input.appendText(FIRST_SETTINGS);
        loadInput();
    }

    public int appendInput(int a, int b, int c, int d, int e) {
        if (input.length + BYTES_APPENDED > MAX_TEXT) {
            return NONE;
        }
        input.appendInt(a);
        input.appendInt(b);
        input.appendInt(c);
        input.appendInt(d);
        input.appendInt(e);
        return input.length;
    }

    public boolean truncateInput(int length) {
        if (length < 0 || length > input.length) {
            return false;
        }
        input.length = length;
        return true;
    }

    public int loadYard() {
        return loadInput() ? yard.crateCount : NONE;
    }

    public int runScript() {
        boolean isRight = script.parse();
        input.length = 0;
        if (!isRight) {
            return NONE;
        }
        history.remember(yard);
        return script.run();
    }

    public int errorCode() {
        return input.errorCode;
    }

    public int errorOffset() {
        return input.errorOffset;
    }

    public int crateCount() {
        return yard.crateCount;
    }

    public int buyerCount() {
        return yard.buyerCount;
    }

    public int crateNameByte(int crate, int index) throws IndexOutOfBoundsException {
        return letterOf(knownCrate(crate).name, index);
    }

    public int buyerNameByte(int buyer, int index) throws IndexOutOfBoundsException {
        return letterOf(knownBuyer(buyer).name, index);
    }

    public int tareOf(int crate) throws IndexOutOfBoundsException {
        return knownCrate(crate).tare;
    }

    public int goodsOf(int crate) throws IndexOutOfBoundsException {
        return knownCrate(crate).goods;
    }

    public int grossOf(int crate) throws IndexOutOfBoundsException {
        return knownCrate(crate).gross;
    }

    public int parentOf(int crate) throws IndexOutOfBoundsException {
        return knownCrate(crate).parentIndex();
    }

    public int depthOf(int crate) throws IndexOutOfBoundsException {
        return knownCrate(crate).depth();
    }

    public int childCount(int crate) throws IndexOutOfBoundsException {
        Crate outer = knownCrate(crate);
        int count = 0;
        for (Crate child = yard.firstChild(outer); child != null; child = yard.nextChild(child)) {
            count++;
        }
        return count;
    }

    public int childOf(int crate, int index) throws IndexOutOfBoundsException {
        Crate outer = knownCrate(crate);
        int position = 0;
        for (Crate child = yard.firstChild(outer); child != null; child = yard.nextChild(child)) {
            if (position == index) {
                return child.index;
            }
            position++;
        }
        return NONE;
    }

    public boolean isInYard(int crate) throws IndexOutOfBoundsException {
        return knownCrate(crate).inYard;
    }

    public int readingCount(int crate) throws IndexOutOfBoundsException {
        return knownCrate(crate).readings;
    }

    public int lastReading(int crate) throws IndexOutOfBoundsException, NoSuchElementException {
        return weighedCrate(crate).last;
    }

    public int meanReading(int crate) throws IndexOutOfBoundsException, NoSuchElementException {
        return weighedCrate(crate).mean();
    }

    public int meanError(int crate) throws IndexOutOfBoundsException, NoSuchElementException {
        return weighedCrate(crate).error();
    }

    public double exactMean(int crate) throws IndexOutOfBoundsException, NoSuchElementException {
        Crate weighed = weighedCrate(crate);
        return (double) weighed.sum / (double) weighed.readings;
    }

    public int springAge() {
        return yard.scale.age;
    }

    public int springSag() {
        return yard.scale.sag();
    }

    public int amplitude() {
        return yard.scale.amplitude;
    }

    public int aging() {
        return yard.scale.aging;
    }

    public int requiredReadings() {
        return yard.requiredReadings;
    }

    public int requiredTrust() {
        return yard.requiredTrust;
    }

    public int predictReading(int crate) throws IndexOutOfBoundsException, IllegalStateException {
        Crate known = knownCrate(crate);
        requireState(known.inYard);
        startTrial(known);
        return trialScale.read(trialCrate);
    }

    public int predictMean(int crate, int readings)
            throws IndexOutOfBoundsException, IllegalArgumentException, IllegalStateException {
        Crate known = knownCrate(crate);
        requireRange(readings, 1, MAX_PREDICTED);
        requireState(known.inYard);
        startTrial(known);
        for (int i = 0; i < readings; i++) {
            trialScale.read(trialCrate);
        }
        return trialCrate.mean();
    }

    public int readingsUntilWithin(int crate, int tolerance)
            throws IndexOutOfBoundsException, IllegalArgumentException, IllegalStateException {
        Crate known = knownCrate(crate);
        requireRange(tolerance, 0, MAX_TOLERANCE);
        requireState(known.inYard);
        startTrial(known);
        if (known.readings > 0 && known.deviation() <= tolerance) {
            return 0;
        }
        for (int taken = 1; taken <= MAX_PREDICTED; taken++) {
            trialScale.read(trialCrate);
            if (trialCrate.deviation() <= tolerance) {
                return taken;
            }
        }
        return NONE;
    }

    public int worstErrorWithin(int crate, int readings)
            throws IndexOutOfBoundsException, IllegalArgumentException, IllegalStateException {
        Crate known = knownCrate(crate);
        requireRange(readings, 1, MAX_PREDICTED);
        requireState(known.inYard);
        startTrial(known);
        int worst = 0;
        for (int i = 0; i < readings; i++) {
            trialScale.read(trialCrate);
            worst = Math.max(worst, trialCrate.deviation());
        }
        return worst;
    }

    public int moneyOf(int buyer) throws IndexOutOfBoundsException {
        return knownBuyer(buyer).money;
    }

    public int toleranceOf(int buyer) throws IndexOutOfBoundsException {
        return knownBuyer(buyer).tolerance;
    }

    public int trustOf(int buyer) throws IndexOutOfBoundsException {
        return knownBuyer(buyer).trust;
    }

    public int purchasesOf(int buyer) throws IndexOutOfBoundsException {
        return knownBuyer(buyer).purchases;
    }

    public int refusalReason(int crate, int buyer) throws IndexOutOfBoundsException {
        return yard.refusal(knownCrate(crate), knownBuyer(buyer));
    }

    public int refusalDetail(int crate, int buyer) throws IndexOutOfBoundsException {
        return yard.detailOfRefusal(knownCrate(crate), knownBuyer(buyer));
    }

    public int bestBuyer(int crate) throws IndexOutOfBoundsException {
        Buyer best = yard.mostTrustingBuyer(knownCrate(crate));
        return best == null ? NONE : best.index;
    }

    public int trustAfterSale(int crate, int buyer) throws IndexOutOfBoundsException, IllegalStateException {
        Crate known = knownCrate(crate);
        Buyer customer = knownBuyer(buyer);
        requireState(yard.refusal(known, customer) == ACCEPTED);
        return customer.trustAfter(known.error());
    }

    public int totalReadings() {
        return yard.totals.readings;
    }

    public int totalDiscarded() {
        return yard.totals.discarded;
    }

    public int springsReplaced() {
        return yard.totals.springs;
    }

    public int salesCount() {
        return yard.totals.sales;
    }

    public int totalPrices() {
        return yard.totals.prices;
    }

    public int totalRefunds() {
        return yard.totals.refunds;
    }

    public boolean isConsistent() {
        return yard.areCratesSound() && yard.isMoneySound() && yard.areTotalsSound();
    }

    public float averageTrust() {
        if (yard.buyerCount == 0) {
            return 0f;
        }
        return (float) yard.sumOfTrust() / (float) yard.buyerCount;
    }

    public int weigh(int crate) throws IndexOutOfBoundsException, IllegalStateException {
        Crate known = knownCrate(crate);
        requireState(known.inYard);
        history.remember(yard);
        return yard.takeReading(known);
    }

    public int addGoods(int crate, int weight)
            throws IndexOutOfBoundsException, IllegalArgumentException, IllegalStateException {
        Crate known = knownCrate(crate);
        requireRange(weight, 1, MAX_GOODS);
        requireState(known.canTakeGoods(weight));
        history.remember(yard);
        yard.changeGoods(known, weight);
        return known.gross;
    }

    public int removeGoods(int crate, int weight)
            throws IndexOutOfBoundsException, IllegalArgumentException, IllegalStateException {
        Crate known = knownCrate(crate);
        requireRange(weight, 1, MAX_GOODS);
        requireState(known.canGiveGoods(weight));
        history.remember(yard);
        yard.changeGoods(known, -weight);
        return known.gross;
    }

    public int moveInto(int crate, int outer) throws IndexOutOfBoundsException, IllegalStateException {
        Crate inner = knownCrate(crate);
        Crate parent = knownCrate(outer);
        requireState(yard.canNest(inner, parent));
        history.remember(yard);
        yard.nest(inner, parent);
        return inner.depth();
    }

    public int takeOut(int crate) throws IndexOutOfBoundsException, IllegalStateException {
        Crate inner = knownCrate(crate);
        Crate former = inner.parent;
        if (former == null || !inner.inYard) {
            throw new IllegalStateException("not inside another crate of the yard");
        }
        history.remember(yard);
        yard.unnest(inner);
        return former.gross;
    }

    public int replaceSpring() {
        int formerAge = yard.scale.age;
        history.remember(yard);
        yard.renewSpring();
        return formerAge;
    }

    public int sell(int crate, int buyer) throws IndexOutOfBoundsException, IllegalStateException {
        Crate known = knownCrate(crate);
        Buyer customer = knownBuyer(buyer);
        requireState(yard.refusal(known, customer) == ACCEPTED);
        history.remember(yard);
        return yard.trade(known, customer);
    }

    public int setAmplitude(int amplitude) throws IllegalArgumentException {
        requireRange(amplitude, 0, MAX_AMPLITUDE);
        int former = yard.scale.amplitude;
        history.remember(yard);
        yard.scale.amplitude = amplitude;
        return former;
    }

    public int setAging(int aging) throws IllegalArgumentException {
        requireRange(aging, 1, MAX_AGING);
        int former = yard.scale.aging;
        history.remember(yard);
        yard.scale.aging = aging;
        return former;
    }

    public int undo() throws NoSuchElementException {
        if (history.count == 0) {
            throw new NoSuchElementException("no change to undo");
        }
        history.restoreLatest(yard);
        return history.count;
    }

    public int writeTree(int crate) throws IndexOutOfBoundsException {
        Crate known = knownCrate(crate);
        output.setLength(0);
        writeCrate(yard, known, output, 0);
        return output.length();
    }

    public int outputByte(int index) {
        if (index < 0 || index >= output.length()) {
            return NONE;
        }
        return output.charAt(index);
    }

    public int saveState() {
        saved.copyFrom(yard);
        hasSaved = true;
        return yard.storedReadings();
    }

    public int restoreState() throws NoSuchElementException {
        if (!hasSaved) {
            throw new NoSuchElementException("no state is saved");
        }
        yard.copyFrom(saved);
        history.forget();
        return yard.storedReadings();
    }

    private boolean loadInput() {
        boolean isRight = setup.parse();
        input.length = 0;
        if (isRight) {
            yard.copyFrom(draft);
            history.forget();
            hasSaved = false;
        }
        return isRight;
    }

    private Crate knownCrate(int index) {
        Crate crate = yard.crateAt(index);
        if (crate == null) {
            throw new IndexOutOfBoundsException("no such crate");
        }
        return crate;
    }

    private Crate weighedCrate(int index) {
        Crate crate = knownCrate(index);
        if (crate.readings == 0) {
            throw new NoSuchElementException("no stored readings");
        }
        return crate;
    }

    private Buyer knownBuyer(int index) {
        Buyer buyer = yard.buyerAt(index);
        if (buyer == null) {
            throw new IndexOutOfBoundsException("no such buyer");
        }
        return buyer;
    }

    private static void requireRange(int value, int least, int greatest) {
        if (value < least || value > greatest) {
            throw new IllegalArgumentException("out of range");
        }
    }

    private static void requireState(boolean allowed) {
        if (!allowed) {
            throw new IllegalStateException("not possible now");
        }
    }

    private void startTrial(Crate crate) {
        trialCrate.copyFrom(crate);
        trialScale.copyFrom(yard.scale);
    }

    private static void writeCrate(Yard yard, Crate crate, StringBuilder out, int level) {
        for (int i = 0; i < MAX_NAME; i++) {
            int letter = letterOf(crate.name, i);
            if (letter != NONE) {
                out.append((char) letter);
            }
        }
        out.append(':');
        out.append(crate.gross);
        Crate first = yard.firstChild(crate);
        if (first == null || level >= MAX_DEPTH) {
            return;
        }
        char before = '[';
        for (Crate child = first; child != null; child = yard.nextChild(child)) {
            out.append(before);
            writeCrate(yard, child, out, level + 1);
            before = ',';
        }
        out.append(']');
    }

    /** Names are packed, five bits a letter, the first letter lowest: so they compare and copy like numbers. */
    private static int letterOf(int name, int index) {
        if (index < 0 || index >= MAX_NAME) {
            return NONE;
        }
        int code = (name >> (5 * index)) & 31;
        return code == 0 ? NONE : 'a' + code - 1;
    }

    /** A crate with what the scale stores for it. */
    private static final class Crate {
        final int index;
        int name;
        int tare;
        int goods;
        int gross;
        Crate parent;
        int putInAt;
        boolean inYard;
        int readings;
        long sum;
        long sags;
        int last;
        int firstError;

        Crate(int index) {
            this.index = index;
        }

        void reset() {
            name = 0;
            tare = 0;
            goods = 0;
            gross = 0;
            parent = null;
            putInAt = 0;
            inYard = false;
            discardReadings();
        }

        /** The parent stays for the yard to set, as a copy has a parent of its own. */
        void copyFrom(Crate other) {
            name = other.name;
            tare = other.tare;
            goods = other.goods;
            gross = other.gross;
            putInAt = other.putInAt;
            inYard = other.inYard;
            readings = other.readings;
            sum = other.sum;
            sags = other.sags;
            last = other.last;
            firstError = other.firstError;
        }

        int parentIndex() {
            return parent == null ? NONE : parent.index;
        }

        int depth() {
            int depth = 0;
            for (Crate outer = parent; outer != null; outer = outer.parent) {
                depth++;
            }
            return depth;
        }

        boolean isOrIsInside(Crate other) {
            for (Crate outer = this; outer != null; outer = outer.parent) {
                if (outer == other) {
                    return true;
                }
            }
            return false;
        }

        boolean canTakeGoods(int weight) {
            return inYard && goods + weight <= MAX_GOODS;
        }

        boolean canGiveGoods(int weight) {
            return inYard && goods >= weight;
        }

        /** Discarding empties the store and its pair together, so an odd number always means an unfinished pair. */
        boolean hasOpenPair() {
            return readings % 2 != 0;
        }

        void store(int reading, int sag) {
            readings++;
            sum += reading;
            sags += sag;
            last = reading;
        }

        void discardReadings() {
            readings = 0;
            sum = 0;
            sags = 0;
            last = 0;
            firstError = 0;
        }

        int mean() {
            if (readings <= 0) {
                return 0;
            }
            return (int) Math.floorDiv(2 * sum + readings, 2L * readings);
        }

        int error() {
            return mean() - gross;
        }

        int deviation() {
            return Math.abs(error());
        }

        int price() {
            return Math.max(0, mean());
        }

        boolean isSumSound() {
            long openError = hasOpenPair() ? firstError : 0;
            return sum == (long) readings * gross + sags + openError;
        }
    }

    private static final class Buyer {
        final int index;
        int name;
        int money;
        int tolerance;
        int trust;
        int purchases;

        Buyer(int index) {
            this.index = index;
        }

        void reset() {
            name = 0;
            money = 0;
            tolerance = 0;
            trust = 0;
            purchases = 0;
        }

        void copyFrom(Buyer other) {
            name = other.name;
            money = other.money;
            tolerance = other.tolerance;
            trust = other.trust;
            purchases = other.purchases;
        }

        int trustAfter(int meanError) {
            int excess = Math.abs(meanError) - tolerance;
            return excess <= 0 ? Math.min(MAX_TRUST, trust + TRUST_GAIN) : Math.max(0, trust - excess);
        }

        int refundFor(int meanError) {
            return meanError > tolerance ? meanError : 0;
        }
    }

    /** The spring and the generator of its noise. */
    private static final class Scale {
        int generator;
        int amplitude;
        int aging;
        int age;

        void reset() {
            generator = 1;
            amplitude = 5;
            aging = 50;
            age = 0;
        }

        void copyFrom(Scale other) {
            generator = other.generator;
            amplitude = other.amplitude;
            aging = other.aging;
            age = other.age;
        }

        int sag() {
            return aging < 1 ? 0 : age / aging;
        }

        private int nextNoise() {
            generator = (75 * generator + 74) % 65537;
            return generator % (2 * amplitude + 1) - amplitude;
        }

        int read(Crate crate) {
            int error = -crate.firstError;
            if (!crate.hasOpenPair()) {
                error = nextNoise();
                crate.firstError = error;
            }
            int sag = sag();
            int reading = crate.gross + sag + error;
            crate.store(reading, sag);
            age++;
            return reading;
        }
    }

    /** What is counted from the loading of the setup on. */
    private static final class Totals {
        int readings;
        int discarded;
        int springs;
        int sales;
        int prices;
        int refunds;
        int firstMoney;

        void reset() {
            readings = 0;
            discarded = 0;
            springs = 0;
            sales = 0;
            prices = 0;
            refunds = 0;
            firstMoney = 0;
        }

        void copyFrom(Totals other) {
            readings = other.readings;
            discarded = other.discarded;
            springs = other.springs;
            sales = other.sales;
            prices = other.prices;
            refunds = other.refunds;
            firstMoney = other.firstMoney;
        }
    }

    /**
     * All that a change can alter: what undo, saving and loading copy as a whole. Crates and buyers
     * that are not in use are blank, so that a loop over all of them needs no index.
     */
    private static final class Yard {
        private final Crate[] crates = new Crate[MAX_CRATES];
        private final Buyer[] buyers = new Buyer[MAX_BUYERS];
        final Scale scale = new Scale();
        final Totals totals = new Totals();
        int crateCount;
        int buyerCount;
        int requiredReadings;
        int requiredTrust;
        private int timesPutIn;

        Yard() {
            for (int i = 0; i < MAX_CRATES; i++) {
                crates[i] = new Crate(i);
            }
            for (int i = 0; i < MAX_BUYERS; i++) {
                buyers[i] = new Buyer(i);
            }
            reset();
        }

        void reset() {
            crateCount = 0;
            buyerCount = 0;
            requiredReadings = 2;
            requiredTrust = 0;
            timesPutIn = 0;
            scale.reset();
            totals.reset();
            for (Crate crate : crates) {
                crate.reset();
            }
            for (Buyer buyer : buyers) {
                buyer.reset();
            }
        }

        void copyFrom(Yard other) {
            crateCount = other.crateCount;
            buyerCount = other.buyerCount;
            requiredReadings = other.requiredReadings;
            requiredTrust = other.requiredTrust;
            timesPutIn = other.timesPutIn;
            scale.copyFrom(other.scale);
            totals.copyFrom(other.totals);
            for (int i = 0; i < MAX_CRATES; i++) {
                crates[i].copyFrom(other.crates[i]);
                crates[i].parent = crateAt(other.crates[i].parentIndex());
            }
            for (int i = 0; i < MAX_BUYERS; i++) {
                buyers[i].copyFrom(other.buyers[i]);
            }
        }

        Crate crateAt(int index) {
            if (index < 0 || index >= crateCount || index >= MAX_CRATES) {
                return null;
            }
            return crates[index];
        }

        Buyer buyerAt(int index) {
            if (index < 0 || index >= buyerCount || index >= MAX_BUYERS) {
                return null;
            }
            return buyers[index];
        }

        Crate crateNamed(int name) {
            for (Crate crate : crates) {
                if (crate.name == name) {
                    return crate;
                }
            }
            return null;
        }

        Buyer buyerNamed(int name) {
            for (Buyer buyer : buyers) {
                if (buyer.name == name) {
                    return buyer;
                }
            }
            return null;
        }

        /** The caller has room for one more: crateCount is below MAX_CRATES. */
        Crate addCrate(int name, int tare, int goods) {
            crateCount++;
            Crate crate = crateAt(crateCount - 1);
            if (crate != null) {
                crate.name = name;
                crate.tare = tare;
                crate.goods = goods;
                crate.gross = tare + goods;
                crate.inYard = true;
            }
            return crate;
        }

        /** The caller has room for one more: buyerCount is below MAX_BUYERS. */
        void addBuyer(int name, int money, int tolerance, int trust) {
            buyerCount++;
            Buyer buyer = buyerAt(buyerCount - 1);
            if (buyer != null) {
                buyer.name = name;
                buyer.money = money;
                buyer.tolerance = tolerance;
                buyer.trust = trust;
                totals.firstMoney += money;
            }
        }

        Crate firstChild(Crate outer) {
            return childAfter(outer, 0);
        }

        Crate nextChild(Crate child) {
            return child.parent == null ? null : childAfter(child.parent, child.putInAt);
        }

        private Crate childAfter(Crate outer, int time) {
            Crate next = null;
            for (Crate crate : crates) {
                boolean isLater = crate.parent == outer && crate.putInAt > time;
                if (isLater && (next == null || crate.putInAt < next.putInAt)) {
                    next = crate;
                }
            }
            return next;
        }

        int takeReading(Crate crate) {
            totals.readings++;
            return scale.read(crate);
        }

        void changeGoods(Crate crate, int weight) {
            crate.goods += weight;
            addWeight(crate, weight);
        }

        boolean canNest(Crate crate, Crate outer) {
            return crate.inYard && outer.inYard && !outer.isOrIsInside(crate)
                && outer.depth() + 1 + levelsInside(crate) <= MAX_DEPTH;
        }

        private int levelsInside(Crate outer) {
            int levels = 0;
            for (Crate crate : crates) {
                if (crate.isOrIsInside(outer)) {
                    levels = Math.max(levels, crate.depth() - outer.depth());
                }
            }
            return levels;
        }

        void nest(Crate crate, Crate outer) {
            addWeight(crate.parent, -crate.gross);
            crate.parent = outer;
            timesPutIn++;
            crate.putInAt = timesPutIn;
            addWeight(outer, crate.gross);
        }

        void unnest(Crate crate) {
            addWeight(crate.parent, -crate.gross);
            crate.parent = null;
        }

        /** The crates whose weight changes are the very ones whose readings are discarded. */
        private void addWeight(Crate innermost, int weight) {
            for (Crate crate = innermost; crate != null; crate = crate.parent) {
                crate.gross += weight;
                totals.discarded += crate.readings;
                crate.discardReadings();
            }
        }

        void renewSpring() {
            scale.age = 0;
            totals.springs++;
        }

        int refusal(Crate crate, Buyer buyer) {
            if (!crate.inYard) {
                return NOT_IN_YARD;
            }
            if (crate.parent != null) {
                return INSIDE_ANOTHER;
            }
            if (crate.readings < requiredReadings) {
                return TOO_FEW_READINGS;
            }
            if (buyer.trust < requiredTrust) {
                return TOO_LITTLE_TRUST;
            }
            return crate.price() > buyer.money ? TOO_LITTLE_MONEY : ACCEPTED;
        }

        int detailOfRefusal(Crate crate, Buyer buyer) {
            switch (refusal(crate, buyer)) {
                case INSIDE_ANOTHER:
                    return crate.parentIndex();
                case TOO_FEW_READINGS:
                    return requiredReadings - crate.readings;
                case TOO_LITTLE_TRUST:
                    return requiredTrust - buyer.trust;
                case TOO_LITTLE_MONEY:
                    return crate.price() - buyer.money;
                default:
                    return 0;
            }
        }

        Buyer mostTrustingBuyer(Crate crate) {
            Buyer best = null;
            for (Buyer buyer : buyers) {
                boolean isWilling = buyer.index < buyerCount && refusal(crate, buyer) == ACCEPTED;
                if (isWilling && (best == null || buyer.trust > best.trust)) {
                    best = buyer;
                }
            }
            return best;
        }

        int trade(Crate crate, Buyer buyer) {
            int price = crate.price();
            int meanError = crate.error();
            int refund = buyer.refundFor(meanError);
            buyer.trust = buyer.trustAfter(meanError);
            buyer.money += refund - price;
            buyer.purchases++;
            totals.sales++;
            totals.prices += price;
            totals.refunds += refund;
            sendAway(crate);
            return price - refund;
        }

        private void sendAway(Crate outer) {
            for (Crate crate : crates) {
                if (crate.isOrIsInside(outer)) {
                    crate.inYard = false;
                }
            }
        }

        int storedReadings() {
            int stored = 0;
            for (Crate crate : crates) {
                stored += crate.readings;
            }
            return stored;
        }

        int sumOfTrust() {
            int sum = 0;
            for (Buyer buyer : buyers) {
                sum += buyer.trust;
            }
            return sum;
        }

        boolean areCratesSound() {
            for (Crate crate : crates) {
                int gross = grossByChildren(this, crate, 0);
                boolean isGrossSound = gross == crate.gross && gross == grossByAncestors(crate);
                if (!isGrossSound || !crate.isSumSound()) {
                    return false;
                }
            }
            return true;
        }

        private static int grossByChildren(Yard yard, Crate crate, int level) {
            int gross = crate.tare + crate.goods;
            if (level >= MAX_DEPTH) {
                return gross;
            }
            for (Crate child = yard.firstChild(crate); child != null; child = yard.nextChild(child)) {
                gross += grossByChildren(yard, child, level + 1);
            }
            return gross;
        }

        private int grossByAncestors(Crate outer) {
            int gross = 0;
            for (Crate crate : crates) {
                if (crate.isOrIsInside(outer)) {
                    gross += crate.tare + crate.goods;
                }
            }
            return gross;
        }

        boolean isMoneySound() {
            int money = totals.prices - totals.refunds;
            for (Buyer buyer : buyers) {
                money += buyer.money;
            }
            return money == totals.firstMoney;
        }

        boolean areTotalsSound() {
            return totals.readings == storedReadings() + totals.discarded;
        }
    }

    /** The yards before the latest changes, in a ring. */
    private static final class History {
        private final Yard[] past = new Yard[MAX_CHANGES];
        private int next;
        int count;

        History() {
            for (int i = 0; i < MAX_CHANGES; i++) {
                past[i] = new Yard();
            }
        }

        void remember(Yard yard) {
            slot().copyFrom(yard);
            next++;
            count = Math.min(count + 1, MAX_CHANGES);
        }

        void restoreLatest(Yard yard) {
            if (count > 0) {
                next--;
                count--;
                yard.copyFrom(slot());
            }
        }

        private Yard slot() {
            return past[Math.floorMod(next, MAX_CHANGES)];
        }

        void forget() {
            count = 0;
        }
    }

    /** The input buffer, its tokens one after the other, and the first error among them. */
    private static final class Text {
        private static final int END = 0;
        private static final int BLANK = 1;
        private static final int WORD = 2;
        private static final int NUMBER = 3;
        private static final int SEMICOLON = 4;
        private static final int STRANGE = 5;

        private final byte[] bytes = new byte[MAX_TEXT];
        int length;
        int errorCode = NO_ERROR;
        int errorOffset = NONE;
        private int kind;
        private int start;
        private int end;

        private void append(int value) {
            if (length >= 0 && length < bytes.length) {
                bytes[length] = (byte) value;
                length++;
            }
        }

        void appendInt(int value) {
            append(value >> 24);
            append(value >> 16);
            append(value >> 8);
            append(value);
        }

        void appendText(String text) {
            for (int i = 0; i < text.length(); i++) {
                append(text.charAt(i));
            }
        }

        void rewind() {
            errorCode = NO_ERROR;
            errorOffset = NONE;
            end = 0;
        }

        boolean fail(int code) {
            errorCode = code;
            errorOffset = start;
            return false;
        }

        private int kindAt(int index) {
            if (index < 0 || index >= length || index >= bytes.length) {
                return END;
            }
            int value = bytes[index];
            if (value >= 'a' && value <= 'z') {
                return WORD;
            }
            if (value >= '0' && value <= '9') {
                return NUMBER;
            }
            if (value == ';') {
                return SEMICOLON;
            }
            return value == ' ' || value == '\n' ? BLANK : STRANGE;
        }

        void advance() {
            start = end;
            while (start < length && kindAt(start) == BLANK) {
                start++;
            }
            kind = kindAt(start);
            end = kind == END ? start : start + 1;
            boolean isRun = kind == WORD || kind == NUMBER;
            while (isRun && end < length && kindAt(end) == kind) {
                end++;
            }
            boolean isTooLong = kind == WORD && end - start > MAX_WORD
                || kind == NUMBER && end - start > MAX_DIGITS;
            if (isTooLong) {
                kind = STRANGE;
            }
        }

        boolean hasNext() {
            advance();
            return kind != END;
        }

        boolean isWord(String word) {
            if (kind != WORD || end - start != word.length()) {
                return false;
            }
            for (int i = 0; i < word.length(); i++) {
                if (byteAt(start + i) != word.charAt(i)) {
                    return false;
                }
            }
            return true;
        }

        private int byteAt(int index) {
            return index < 0 || index >= bytes.length ? 0 : bytes[index];
        }

        boolean nextWord(String word) {
            advance();
            return isWord(word) || fail(SYNTAX);
        }

        boolean nextName() {
            advance();
            return kind == WORD && end - start <= MAX_NAME || fail(SYNTAX);
        }

        int name() {
            int name = 0;
            for (int i = end - 1; i >= start; i--) {
                name = (name << 5) + byteAt(i) - 'a' + 1;
            }
            return name;
        }

        int indexOfCrate(Yard yard) {
            Crate crate = yard.crateNamed(name());
            if (crate == null) {
                fail(UNKNOWN_NAME);
                return NONE;
            }
            return crate.index;
        }

        int indexOfBuyer(Yard yard) {
            Buyer buyer = yard.buyerNamed(name());
            if (buyer == null) {
                fail(UNKNOWN_NAME);
                return NONE;
            }
            return buyer.index;
        }

        boolean nextNumber(int least, int greatest) {
            advance();
            if (kind != NUMBER) {
                return fail(SYNTAX);
            }
            return number() >= least && number() <= greatest || fail(OUT_OF_RANGE);
        }

        int number() {
            int number = 0;
            for (int i = start; i < end; i++) {
                number = number * 10 + byteAt(i) - '0';
            }
            return number;
        }

        boolean requireSemicolon() {
            return kind == SEMICOLON || fail(SYNTAX);
        }

        boolean nextSemicolon() {
            advance();
            return requireSemicolon();
        }
    }

    /** Reads a setup text into a draft of a yard, so that an error leaves the yard itself alone. */
    private static final class Setup {
        private final Text text;
        private final Yard draft;

        Setup(Text text, Yard draft) {
            this.text = text;
            this.draft = draft;
        }

        boolean parse() {
            draft.reset();
            text.rewind();
            for (int i = 0; i < MAX_TEXT && text.hasNext(); i++) {
                boolean isRight;
                if (text.isWord("crate")) {
                    isRight = crate();
                } else if (text.isWord("buyer")) {
                    isRight = buyer();
                } else {
                    isRight = setting() && text.nextSemicolon();
                }
                if (!isRight) {
                    return false;
                }
            }
            return draft.crateCount > 0 || text.fail(NO_CRATE);
        }

        private boolean crate() {
            if (draft.crateCount >= MAX_CRATES) {
                return text.fail(TOO_MANY);
            }
            if (!text.nextName()) {
                return false;
            }
            int name = text.name();
            if (draft.crateNamed(name) != null) {
                return text.fail(DUPLICATE_NAME);
            }
            if (!text.nextNumber(1, MAX_TARE)) {
                return false;
            }
            int tare = text.number();
            if (!text.nextNumber(0, MAX_GOODS)) {
                return false;
            }
            int goods = text.number();
            Crate outer = null;
            text.advance();
            if (text.isWord("in")) {
                if (!text.nextName() || !requireOuter()) {
                    return false;
                }
                outer = draft.crateNamed(text.name());
                text.advance();
            }
            if (!text.requireSemicolon()) {
                return false;
            }
            Crate crate = draft.addCrate(name, tare, goods);
            if (crate != null && outer != null) {
                draft.nest(crate, outer);
            }
            return true;
        }

        private boolean requireOuter() {
            Crate outer = draft.crateNamed(text.name());
            if (outer == null) {
                return text.fail(UNKNOWN_NAME);
            }
            return outer.depth() < MAX_DEPTH || text.fail(TOO_DEEP);
        }

        private boolean buyer() {
            if (draft.buyerCount >= MAX_BUYERS) {
                return text.fail(TOO_MANY);
            }
            if (!text.nextName()) {
                return false;
            }
            int name = text.name();
            if (draft.buyerNamed(name) != null) {
                return text.fail(DUPLICATE_NAME);
            }
            if (!text.nextNumber(0, MAX_MONEY)) {
                return false;
            }
            int money = text.number();
            if (!text.nextNumber(0, MAX_TOLERANCE)) {
                return false;
            }
            int tolerance = text.number();
            if (!text.nextNumber(0, MAX_TRUST)) {
                return false;
            }
            int trust = text.number();
            if (!text.nextSemicolon()) {
                return false;
            }
            draft.addBuyer(name, money, tolerance, trust);
            return true;
        }

        private boolean setting() {
            if (text.isWord("noise")) {
                if (text.nextNumber(0, MAX_AMPLITUDE)) {
                    draft.scale.amplitude = text.number();
                }
            } else if (text.isWord("seed")) {
                if (text.nextNumber(0, MAX_SEED)) {
                    draft.scale.generator = text.number();
                }
            } else if (text.isWord("aging")) {
                if (text.nextNumber(1, MAX_AGING)) {
                    draft.scale.aging = text.number();
                }
            } else if (text.isWord("readings")) {
                if (text.nextNumber(1, MAX_REQUIRED_READINGS)) {
                    draft.requiredReadings = text.number();
                }
            } else if (text.isWord("trust")) {
                if (text.nextNumber(0, MAX_TRUST)) {
                    draft.requiredTrust = text.number();
                }
            } else {
                text.fail(SYNTAX);
            }
            return text.errorCode == NO_ERROR;
        }
    }

    private enum Verb {
        WEIGH("weigh"), ADD("add"), REMOVE("remove"), MOVE("move"), TAKEOUT("takeout"),
        SPRING("spring"), SELL("sell"), NOISE("noise"), AGING("aging");

        private static final Verb[] ALL = values();

        private final String word;

        Verb(String word) {
            this.word = word;
        }

        static Verb at(Text text) {
            for (Verb verb : ALL) {
                if (text.isWord(verb.word)) {
                    return verb;
                }
            }
            return null;
        }
    }

    /** Reads a whole script before any of it runs, so that a text with an error changes nothing. */
    private static final class Script {
        private final Text text;
        private final Yard yard;
        private final Statement[] statements = new Statement[MAX_STATEMENTS];
        private int count;

        Script(Text text, Yard yard) {
            this.text = text;
            this.yard = yard;
            for (int i = 0; i < MAX_STATEMENTS; i++) {
                statements[i] = new Statement();
            }
        }

        boolean parse() {
            count = 0;
            text.rewind();
            for (int i = 0; i < MAX_TEXT && text.hasNext(); i++) {
                Verb verb = Verb.at(text);
                if (verb == null) {
                    return text.fail(SYNTAX);
                }
                if (count >= MAX_STATEMENTS) {
                    return text.fail(TOO_MANY);
                }
                if (!statements[count].parse(verb, text, yard) || !text.nextSemicolon()) {
                    return false;
                }
                count++;
            }
            return true;
        }

        int run() {
            for (int i = 0; i < MAX_STATEMENTS && i < count; i++) {
                if (!statements[i].execute(yard)) {
                    return i;
                }
            }
            return count;
        }
    }

    private static final class Statement {
        private Verb verb = Verb.SPRING;
        private int crate = NONE;
        private int outer = NONE;
        private int buyer = NONE;
        private int number;

        boolean parse(Verb first, Text text, Yard yard) {
            verb = first;
            switch (verb) {
                case WEIGH:
                    return nextCrate(text, yard) && nextNumber(text, 1, MAX_WEIGHINGS);
                case ADD:
                case REMOVE:
                    return nextCrate(text, yard) && nextNumber(text, 1, MAX_GOODS);
                case MOVE:
                    return nextCrate(text, yard) && text.nextWord("into") && nextOuter(text, yard);
                case TAKEOUT:
                    return nextCrate(text, yard);
                case SELL:
                    return nextCrate(text, yard) && text.nextWord("to") && nextBuyer(text, yard);
                case NOISE:
                    return nextNumber(text, 0, MAX_AMPLITUDE);
                case AGING:
                    return nextNumber(text, 1, MAX_AGING);
                default:
                    return true;
            }
        }

        private boolean nextNumber(Text text, int least, int greatest) {
            boolean isRight = text.nextNumber(least, greatest);
            number = isRight ? text.number() : 0;
            return isRight;
        }

        private boolean nextCrate(Text text, Yard yard) {
            crate = text.nextName() ? text.indexOfCrate(yard) : NONE;
            return crate != NONE;
        }

        private boolean nextOuter(Text text, Yard yard) {
            outer = text.nextName() ? text.indexOfCrate(yard) : NONE;
            return outer != NONE;
        }

        private boolean nextBuyer(Text text, Yard yard) {
            buyer = text.nextName() ? text.indexOfBuyer(yard) : NONE;
            return buyer != NONE;
        }

        /** Answers false, and changes nothing, where the method of the same kind would throw. */
        boolean execute(Yard yard) {
            switch (verb) {
                case SPRING:
                    yard.renewSpring();
                    return true;
                case NOISE:
                    yard.scale.amplitude = number;
                    return true;
                case AGING:
                    yard.scale.aging = number;
                    return true;
                default:
                    break;
            }
            Crate known = yard.crateAt(crate);
            if (known == null || !known.inYard) {
                return false;
            }
            switch (verb) {
                case WEIGH:
                    return weighOften(known, number, yard);
                case ADD:
                    return changeGoods(known.canTakeGoods(number), known, number, yard);
                case REMOVE:
                    return changeGoods(known.canGiveGoods(number), known, -number, yard);
                case MOVE:
                    return moveTo(yard.crateAt(outer), known, yard);
                case TAKEOUT:
                    return takeFromParent(known, yard);
                default:
                    return sellTo(yard.buyerAt(buyer), known, yard);
            }
        }

        private static boolean weighOften(Crate known, int times, Yard yard) {
            for (int i = 0; i < times; i++) {
                yard.takeReading(known);
            }
            return true;
        }

        private static boolean changeGoods(boolean isAllowed, Crate known, int weight, Yard yard) {
            if (isAllowed) {
                yard.changeGoods(known, weight);
            }
            return isAllowed;
        }

        private static boolean moveTo(Crate into, Crate known, Yard yard) {
            boolean isAllowed = into != null && yard.canNest(known, into);
            if (isAllowed) {
                yard.nest(known, into);
            }
            return isAllowed;
        }

        private static boolean takeFromParent(Crate known, Yard yard) {
            boolean isAllowed = known.parent != null;
            if (isAllowed) {
                yard.unnest(known);
            }
            return isAllowed;
        }

        private static boolean sellTo(Buyer customer, Crate known, Yard yard) {
            boolean isAllowed = customer != null && yard.refusal(known, customer) == ACCEPTED;
            if (isAllowed) {
                yard.trade(known, customer);
            }
            return isAllowed;
        }
    }
}
