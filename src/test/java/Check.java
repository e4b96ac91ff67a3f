import java.util.Objects;
import java.util.function.Consumer;
import java.util.function.Function;
import java.util.function.Supplier;

/** Counts what is as due and prints what is not. */
final class Check {
    static int passed = 0;
    static int failed = 0;

    private Check() {
    }

    static void same(String what, Object got, Object want) {
        if (Objects.equals(got, want)) {
            passed++;
        } else {
            failed++;
            System.out.println(what + " answered " + got + ", due is " + want);
        }
    }

    static void isTrue(String what, boolean got) {
        same(what, got, true);
    }

    static void range(String what, Runnable call) {
        fails(what, IndexOutOfBoundsException.class, call);
    }

    static void argument(String what, Runnable call) {
        fails(what, IllegalArgumentException.class, call);
    }

    static void state(String what, Runnable call) {
        fails(what, IllegalStateException.class, call);
    }

    static void element(String what, Runnable call) {
        fails(what, java.util.NoSuchElementException.class, call);
    }

    private static void fails(String what, Class<?> kind, Runnable call) {
        Object got = "nothing thrown";
        try {
            call.run();
        } catch (RuntimeException e) {
            got = e.getClass();
        }
        same(what, got, kind);
    }

    /** Puts the text into the input buffer, which must be empty. */
    static void type(CrateScale x, String text) {
        byte[] padded = new byte[(text.length() + 19) / 20 * 20];
        for (int i = 0; i < text.length(); i++) {
            padded[i] = (byte) text.charAt(i);
        }
        for (int i = 0; i < padded.length; i += 20) {
            x.appendInput(word(padded, i), word(padded, i + 4), word(padded, i + 8), word(padded, i + 12),
                word(padded, i + 16));
        }
        x.truncateInput(text.length());
    }

    private static int word(byte[] bytes, int at) {
        return (bytes[at] & 255) << 24 | (bytes[at + 1] & 255) << 16 | (bytes[at + 2] & 255) << 8 | bytes[at + 3] & 255;
    }

    static int load(CrateScale x, String text) {
        type(x, text);
        return x.loadYard();
    }

    static int run(CrateScale x, String text) {
        type(x, text);
        return x.runScript();
    }

    static CrateScale yard(String text) {
        CrateScale x = new CrateScale();
        if (load(x, text) == CrateScale.NONE) {
            throw new IllegalArgumentException("the test's own setup has an error: " + text);
        }
        return x;
    }

    static void weighOften(CrateScale x, int crate, int times) {
        for (int i = 0; i < times; i++) {
            x.weigh(crate);
        }
    }

    static void loadError(String text, int code, int offset) {
        CrateScale x = new CrateScale();
        same("load of \"" + text + "\"", load(x, text), CrateScale.NONE);
        same("error code of \"" + text + "\"", x.errorCode(), code);
        same("error offset of \"" + text + "\"", x.errorOffset(), offset);
        same("crates after \"" + text + "\"", x.crateCount(), 4);
    }

    static void scriptError(String text, int code, int offset) {
        CrateScale x = new CrateScale();
        same("run of \"" + text + "\"", run(x, text), CrateScale.NONE);
        same("error code of \"" + text + "\"", x.errorCode(), code);
        same("error offset of \"" + text + "\"", x.errorOffset(), offset);
        element("undo after the script \"" + text + "\"", () -> x.undo());
    }

    static String output(CrateScale x) {
        StringBuilder text = new StringBuilder();
        for (int next = x.outputByte(0); next != CrateScale.NONE; next = x.outputByte(text.length())) {
            text.append((char) next);
        }
        return text.toString();
    }

    static String tree(CrateScale x, int crate) {
        int length = x.writeTree(crate);
        String text = output(x);
        same("length of " + text, length, text.length());
        return text;
    }

    /** All that the object shows of its yard, for comparing two moments, in few calls: an object has but 512. */
    static String view(CrateScale x) {
        StringBuilder text = new StringBuilder();
        int crates = x.crateCount();
        for (int c = 0; c < crates; c++) {
            viewOfCrate(x, c, text);
        }
        int buyers = x.buyerCount();
        for (int b = 0; b < buyers; b++) {
            text.append("buyer ").append(x.moneyOf(b)).append(' ').append(x.toleranceOf(b)).append(' ');
            text.append(x.trustOf(b)).append(' ').append(x.purchasesOf(b)).append('\n');
        }
        text.append(x.amplitude()).append(' ').append(x.aging()).append(' ').append(x.requiredReadings()).append(' ');
        text.append(x.requiredTrust()).append(' ').append(x.springAge()).append(" totals ").append(x.totalReadings());
        text.append(' ').append(x.totalDiscarded()).append(' ').append(x.springsReplaced()).append(' ');
        text.append(x.salesCount()).append(' ').append(x.totalPrices()).append(' ').append(x.totalRefunds());
        return text.toString();
    }

    private static void viewOfCrate(CrateScale x, int c, StringBuilder text) {
        boolean isInYard = x.isInYard(c);
        text.append("crate ").append(x.tareOf(c)).append(' ').append(x.goodsOf(c)).append(' ').append(x.grossOf(c));
        text.append(" in ").append(x.parentOf(c)).append(' ').append(isInYard).append(" holds");
        int children = x.childCount(c);
        for (int i = 0; i < children; i++) {
            text.append(' ').append(x.childOf(c, i));
        }
        int readings = x.readingCount(c);
        text.append(" readings ").append(readings);
        if (readings > 0) {
            text.append(' ').append(x.lastReading(c)).append(' ').append(x.exactMean(c));
        }
        if (isInYard) {
            text.append(" next ").append(x.predictReading(c)).append(' ').append(x.predictMean(c, 3));
        }
        text.append('\n');
    }

    /** A small yard with something in every corner: two crates left it, and there is input, output and an error. */
    static CrateScale busy() {
        CrateScale x = yard("crate a 3 497;crate b 2 0 in a;crate d 4 40;crate e 5 50 in d;buyer p 900 5 50;buyer q 9 0 9;"
            + "noise 7;seed 3;aging 2;readings 2;trust 10;");
        run(x, "weigh a 2;weigh b 1;");
        x.saveState();
        run(x, "weigh d 2;weigh e 3;sell d to p;");
        x.weigh(0);
        x.writeTree(0);
        run(x, "?");
        type(x, "noise 9;weigh b 1;");
        return x;
    }

    /** All that can ever be seen of the object. It uses the object up: its changes are undone and its input is run. */
    static String whole(CrateScale x) {
        StringBuilder text = new StringBuilder();
        text.append(x.errorCode()).append(' ').append(x.errorOffset()).append(' ').append(output(x)).append('\n');
        text.append(view(x)).append(x.isConsistent());
        for (boolean isMore = true; isMore;) {
            isMore = appendAnswer(text, "undo", () -> x.undo());
            text.append(isMore ? view(x) : "");
        }
        appendAnswer(text, "restore", () -> x.restoreState());
        text.append(view(x)).append(x.appendInput(0x20202020, 0x20202020, 0x20202020, 0x20202020, 0x20202020));
        text.append(' ').append(x.runScript()).append(' ').append(x.errorCode()).append(' ').append(x.errorOffset());
        return text.append(view(x)).toString();
    }

    private static boolean appendAnswer(StringBuilder text, String what, Supplier<Integer> call) {
        text.append('\n').append(what).append(' ');
        try {
            text.append(call.get()).append('\n');
            return true;
        } catch (RuntimeException e) {
            text.append(e.getClass().getSimpleName()).append('\n');
            return false;
        }
    }

    /** The call throws this exception, and nothing of the object is changed by it. */
    static void refused(String what, Class<?> kind, Supplier<CrateScale> made, Consumer<CrateScale> call) {
        CrateScale x = made.get();
        fails(what, kind, () -> call.accept(x));
        same(what + " leaves everything unchanged", whole(x), whole(made.get()));
    }

    /** The call answers this, and nothing of the object is changed by it. */
    static void harmless(String what, Object due, Supplier<CrateScale> made, Function<CrateScale, Object> call) {
        CrateScale x = made.get();
        same(what, call.apply(x), due);
        same(what + " leaves everything unchanged", whole(x), whole(made.get()));
    }
}
