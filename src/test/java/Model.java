import java.util.ArrayDeque;
import java.util.ArrayList;
import java.util.Deque;
import java.util.HashMap;
import java.util.List;
import java.util.Map;
import java.util.regex.Matcher;
import java.util.regex.Pattern;

/**
 * A second, slow reading of the document, for comparing answers: it keeps every reading in a list, computes every
 * weight anew, and copies the whole state for each change.
 */
final class Model {
    static final class Stop extends RuntimeException {
        private static final long serialVersionUID = 1L;

        Stop(String kind) {
            super(kind);
        }
    }

    private static final class State {
        List<String> crateNames = new ArrayList<>();
        List<Integer> tares = new ArrayList<>();
        List<Integer> goods = new ArrayList<>();
        List<Integer> parents = new ArrayList<>();
        List<List<Integer>> children = new ArrayList<>();
        List<Integer> sold = new ArrayList<>();
        List<List<Integer>> readings = new ArrayList<>();
        List<Integer> pending = new ArrayList<>();
        List<String> buyerNames = new ArrayList<>();
        List<int[]> buyers = new ArrayList<>();
        Map<String, Integer> numbers = new HashMap<>();

        State() {
            String[] names = {"noise", "seed", "aging", "readings", "trust", "age", "totalReadings", "discarded",
                "springs", "sales", "prices", "refunds"};
            int[] values = {5, 1, 50, 2, 0, 0, 0, 0, 0, 0, 0, 0};
            for (int i = 0; i < names.length; i++) {
                numbers.put(names[i], values[i]);
            }
        }

        State copy() {
            State twin = new State();
            twin.crateNames.addAll(crateNames);
            twin.tares.addAll(tares);
            twin.goods.addAll(goods);
            twin.parents.addAll(parents);
            children.forEach(list -> twin.children.add(new ArrayList<>(list)));
            twin.sold.addAll(sold);
            readings.forEach(list -> twin.readings.add(new ArrayList<>(list)));
            twin.pending.addAll(pending);
            twin.buyerNames.addAll(buyerNames);
            buyers.forEach(buyer -> twin.buyers.add(buyer.clone()));
            twin.numbers.putAll(numbers);
            return twin;
        }

        int get(String name) {
            return numbers.get(name);
        }

        void set(String name, int value) {
            numbers.put(name, value);
        }

        void grow(String name, int by) {
            numbers.merge(name, by, Integer::sum);
        }

        void addCrate(String name, int tare, int goodsWeight, int parent) {
            crateNames.add(name);
            tares.add(tare);
            goods.add(goodsWeight);
            parents.add(parent);
            children.add(new ArrayList<>());
            sold.add(0);
            readings.add(new ArrayList<>());
            pending.add(null);
            if (parent >= 0) {
                children.get(parent).add(crateNames.size() - 1);
            }
        }

        int gross(int c) {
            return tares.get(c) + goods.get(c) + children.get(c).stream().mapToInt(this::gross).sum();
        }

        List<Integer> ancestors(int c) {
            List<Integer> list = new ArrayList<>();
            for (int p = parents.get(c); p >= 0; p = parents.get(p)) {
                list.add(p);
            }
            return list;
        }

        int height(int c) {
            return children.get(c).stream().mapToInt(k -> 1 + height(k)).max().orElse(0);
        }

        boolean inYard(int c) {
            return sold.get(c) == 0 && ancestors(c).stream().allMatch(p -> sold.get(p) == 0);
        }

        void discard(int c) {
            grow("discarded", readings.get(c).size());
            readings.get(c).clear();
            pending.set(c, null);
        }

        int read(int c) {
            int error;
            if (pending.get(c) == null) {
                long s = (75L * get("seed") + 74) % 65537;
                set("seed", (int) s);
                error = (int) (s % (2 * get("noise") + 1)) - get("noise");
                pending.set(c, error);
            } else {
                error = -pending.get(c);
                pending.set(c, null);
            }
            int reading = gross(c) + get("age") / get("aging") + error;
            readings.get(c).add(reading);
            grow("age", 1);
            grow("totalReadings", 1);
            return reading;
        }

        int mean(int c) {
            long sum = readings.get(c).stream().mapToLong(r -> r).sum();
            return (int) Math.floor((double) sum / readings.get(c).size() + 0.5);
        }

        int off(int c) {
            return Math.abs(mean(c) - gross(c));
        }

        int price(int c) {
            return Math.max(mean(c), 0);
        }

        int[] refusal(int c, int b) {
            if (!inYard(c)) {
                return new int[] {1, 0};
            }
            if (parents.get(c) >= 0) {
                return new int[] {2, parents.get(c)};
            }
            if (readings.get(c).size() < get("readings")) {
                return new int[] {3, get("readings") - readings.get(c).size()};
            }
            if (buyers.get(b)[2] < get("trust")) {
                return new int[] {4, get("trust") - buyers.get(b)[2]};
            }
            if (price(c) > buyers.get(b)[0]) {
                return new int[] {5, price(c) - buyers.get(b)[0]};
            }
            return new int[] {0, 0};
        }

        int stored() {
            return readings.stream().mapToInt(List::size).sum();
        }
    }

    private State now = new State();
    private State saved;
    private final Deque<State> past = new ArrayDeque<>();
    private String input = "";
    private String output = "";
    private int errorCode = 0;
    private int errorOffset = -1;

    Model() {
        input = "crate apple 3 20;crate pear 2 15 in apple;crate plum 5 0;crate fig 1 9 in pear;"
            + "buyer amy 200 3 50;buyer ben 60 1 80;noise 4;seed 7;aging 10;readings 2;trust 30;";
        loadYard();
    }

    List<String> crateNames() {
        return now.crateNames;
    }

    List<String> buyerNames() {
        return now.buyerNames;
    }

    /** The answer of a call, as text; an exception is throws. and its name. */
    String call(String name, int... a) {
        try {
            return String.valueOf(answer(name, a));
        } catch (Stop stop) {
            return "throws." + stop.getMessage();
        }
    }

    private static void need(boolean holds, String kind) {
        if (!holds) {
            throw new Stop(kind);
        }
    }

    private void crate(int c) {
        need(c >= 0 && c < now.crateNames.size(), "IndexOutOfBoundsException");
    }

    private void buyer(int b) {
        need(b >= 0 && b < now.buyers.size(), "IndexOutOfBoundsException");
    }

    private static void argument(int value, int least, int most) {
        need(least <= value && value <= most, "IllegalArgumentException");
    }

    private static void state(boolean holds) {
        need(holds, "IllegalStateException");
    }

    private static int letter(String name, int i) {
        return i >= 0 && i < name.length() ? name.charAt(i) : -1;
    }

    private Object answer(String name, int[] a) {
        switch (name) {
            case "appendInput": {
                if (input.length() > 580) {
                    return -1;
                }
                for (int value : a) {
                    for (int shift = 24; shift >= 0; shift -= 8) {
                        input += (char) (value >>> shift & 255);
                    }
                }
                return input.length();
            }
            case "truncateInput": {
                boolean fits = a[0] >= 0 && a[0] <= input.length();
                input = fits ? input.substring(0, a[0]) : input;
                return fits;
            }
            case "loadYard": return loadYard();
            case "runScript": return runScript();
            case "errorCode": return errorCode;
            case "errorOffset": return errorOffset;
            case "crateCount": return now.crateNames.size();
            case "buyerCount": return now.buyers.size();
            case "springAge": return now.get("age");
            case "springSag": return now.get("age") / now.get("aging");
            case "amplitude": return now.get("noise");
            case "aging": return now.get("aging");
            case "requiredReadings": return now.get("readings");
            case "requiredTrust": return now.get("trust");
            case "totalReadings": return now.get("totalReadings");
            case "totalDiscarded": return now.get("discarded");
            case "springsReplaced": return now.get("springs");
            case "salesCount": return now.get("sales");
            case "totalPrices": return now.get("prices");
            case "totalRefunds": return now.get("refunds");
            case "isConsistent": return true;
            case "averageTrust": {
                float sum = now.buyers.stream().mapToInt(b -> b[2]).sum();
                return now.buyers.isEmpty() ? 0f : sum / now.buyers.size();
            }
            case "outputByte": return letter(output, a[0]);
            case "saveState": {
                saved = now.copy();
                return now.stored();
            }
            case "restoreState": {
                need(saved != null, "NoSuchElementException");
                now = saved.copy();
                past.clear();
                return now.stored();
            }
            case "undo": {
                need(!past.isEmpty(), "NoSuchElementException");
                now = past.pop();
                return past.size();
            }
            case "replaceSpring": case "setAmplitude": case "setAging": case "weigh": case "addGoods":
            case "removeGoods": case "moveInto": case "takeOut": case "sell": {
                State before = now.copy();
                int result = change(name, a);
                remember(before);
                return result;
            }
            case "moneyOf": case "toleranceOf": case "trustOf": case "purchasesOf": {
                buyer(a[0]);
                return now.buyers.get(a[0])[List.of("moneyOf", "toleranceOf", "trustOf", "purchasesOf").indexOf(name)];
            }
            case "buyerNameByte": {
                buyer(a[0]);
                return letter(now.buyerNames.get(a[0]), a[1]);
            }
            default:
                crate(a[0]);
                return ofCrate(name, a);
        }
    }

    private Object ofCrate(String name, int[] a) {
        int c = a[0];
        List<Integer> readings = now.readings.get(c);
        switch (name) {
            case "crateNameByte": return letter(now.crateNames.get(c), a[1]);
            case "tareOf": return now.tares.get(c);
            case "goodsOf": return now.goods.get(c);
            case "grossOf": return now.gross(c);
            case "parentOf": return now.parents.get(c);
            case "depthOf": return now.ancestors(c).size();
            case "childCount": return now.children.get(c).size();
            case "childOf": return a[1] >= 0 && a[1] < now.children.get(c).size() ? now.children.get(c).get(a[1]) : -1;
            case "isInYard": return now.inYard(c);
            case "readingCount": return readings.size();
            case "lastReading": case "meanReading": case "meanError": case "exactMean": {
                need(!readings.isEmpty(), "NoSuchElementException");
                if (name.equals("lastReading")) {
                    return readings.get(readings.size() - 1);
                }
                if (name.equals("exactMean")) {
                    return (double) readings.stream().mapToLong(r -> r).sum() / (double) readings.size();
                }
                return name.equals("meanReading") ? now.mean(c) : now.mean(c) - now.gross(c);
            }
            case "predictReading": case "predictMean": case "readingsUntilWithin": case "worstErrorWithin":
                return predict(name, c, a);
            case "bestBuyer": {
                int best = -1;
                for (int b = now.buyers.size() - 1; b >= 0; b--) {
                    boolean sells = now.refusal(c, b)[0] == 0;
                    best = sells && (best < 0 || now.buyers.get(b)[2] >= now.buyers.get(best)[2]) ? b : best;
                }
                return best;
            }
            case "refusalReason": case "refusalDetail": {
                buyer(a[1]);
                return now.refusal(c, a[1])[name.equals("refusalReason") ? 0 : 1];
            }
            case "trustAfterSale": {
                State before = now.copy();
                try {
                    change("sell", a);
                    return now.buyers.get(a[1])[2];
                } finally {
                    now = before;
                }
            }
            case "writeTree": {
                output = tree(c);
                return output.length();
            }
            default: throw new AssertionError(name);
        }
    }

    private String tree(int c) {
        List<String> inner = new ArrayList<>();
        now.children.get(c).forEach(k -> inner.add(tree(k)));
        return now.crateNames.get(c) + ":" + now.gross(c) + (inner.isEmpty() ? "" : "[" + String.join(",", inner) + "]");
    }

    private Object predict(String name, int c, int[] a) {
        if (!name.equals("predictReading")) {
            boolean isTolerance = name.equals("readingsUntilWithin");
            argument(a[1], isTolerance ? 0 : 1, isTolerance ? 50 : 100);
        }
        state(now.inYard(c));
        State before = now;
        now = now.copy();
        try {
            if (name.equals("predictReading")) {
                return now.read(c);
            }
            if (name.equals("predictMean")) {
                for (int i = 0; i < a[1]; i++) {
                    now.read(c);
                }
                return now.mean(c);
            }
            if (name.equals("worstErrorWithin")) {
                int worst = 0;
                for (int i = 0; i < a[1]; i++) {
                    now.read(c);
                    worst = Math.max(worst, now.off(c));
                }
                return worst;
            }
            if (!now.readings.get(c).isEmpty() && now.off(c) <= a[1]) {
                return 0;
            }
            for (int i = 1; i <= 100; i++) {
                now.read(c);
                if (now.off(c) <= a[1]) {
                    return i;
                }
            }
            return -1;
        } finally {
            now = before;
        }
    }

    private void remember(State before) {
        past.push(before);
        if (past.size() > 8) {
            past.removeLast();
        }
    }

    private int change(String name, int... a) {
        switch (name) {
            case "replaceSpring": {
                int age = now.get("age");
                now.set("age", 0);
                now.grow("springs", 1);
                return age;
            }
            case "setAmplitude": {
                argument(a[0], 0, 50);
                int former = now.get("noise");
                now.set("noise", a[0]);
                return former;
            }
            case "setAging": {
                argument(a[0], 1, 100);
                int former = now.get("aging");
                now.set("aging", a[0]);
                return former;
            }
            default: break;
        }
        int c = a[0];
        crate(c);
        switch (name) {
            case "weigh":
                state(now.inYard(c));
                return now.read(c);
            case "addGoods": case "removeGoods": {
                argument(a[1], 1, 500);
                state(now.inYard(c));
                int goods = now.goods.get(c) + (name.equals("addGoods") ? a[1] : -a[1]);
                state(goods >= 0 && goods <= 500);
                now.goods.set(c, goods);
                now.discard(c);
                now.ancestors(c).forEach(now::discard);
                return now.gross(c);
            }
            case "moveInto": {
                int o = a[1];
                crate(o);
                state(now.inYard(c) && now.inYard(o) && o != c && !now.ancestors(o).contains(c));
                state(now.ancestors(o).size() + 1 + now.height(c) <= 5);
                leave(c);
                now.parents.set(c, o);
                now.children.get(o).add(c);
                now.ancestors(c).forEach(now::discard);
                return now.ancestors(c).size();
            }
            case "takeOut": {
                state(now.inYard(c) && now.parents.get(c) >= 0);
                int former = now.parents.get(c);
                leave(c);
                return now.gross(former);
            }
            case "sell": {
                buyer(a[1]);
                state(now.refusal(c, a[1])[0] == 0);
                return sell(c, now.buyers.get(a[1]));
            }
            default: throw new AssertionError(name);
        }
    }

    private void leave(int c) {
        now.ancestors(c).forEach(now::discard);
        if (now.parents.get(c) >= 0) {
            now.children.get(now.parents.get(c)).remove(Integer.valueOf(c));
        }
        now.parents.set(c, -1);
    }

    private int sell(int c, int[] buyer) {
        int price = now.price(c);
        int refund = 0;
        if (now.off(c) <= buyer[1]) {
            buyer[2] = Math.min(100, buyer[2] + 5);
        } else {
            buyer[2] = Math.max(0, buyer[2] - now.off(c) + buyer[1]);
            refund = now.mean(c) > now.gross(c) ? now.off(c) : 0;
        }
        buyer[0] -= price - refund;
        buyer[3]++;
        now.sold.set(c, 1);
        now.grow("sales", 1);
        now.grow("prices", price);
        now.grow("refunds", refund);
        return price - refund;
    }

    // ---- texts: the tokens are found first, then matched against patterns of kinds ----

    private static final class Fault extends RuntimeException {
        private static final long serialVersionUID = 1L;
        final int code;
        final int offset;

        Fault(int code, int offset) {
            this.code = code;
            this.offset = offset;
        }
    }

    private static final Pattern TOKEN = Pattern.compile("[a-z]+|[0-9]+|;|[^a-z0-9; \n]", Pattern.DOTALL);
    private Matcher tokens;
    private String token;
    private int offset;

    private void next() {
        boolean found = tokens.find();
        token = found ? tokens.group() : "";
        offset = found ? tokens.start() : input.length();
    }

    private Fault fault(int code) {
        return new Fault(code, offset);
    }

    private void expect(boolean holds, int code) {
        if (!holds) {
            throw fault(code);
        }
    }

    private String name() {
        next();
        expect(token.matches("[a-z]{1,6}"), 1);
        return token;
    }

    private int number(int least, int most) {
        next();
        expect(token.matches("[0-9]{1,4}"), 1);
        int value = Integer.parseInt(token);
        expect(least <= value && value <= most, 2);
        return value;
    }

    private int known(List<String> names) {
        int index = names.indexOf(name());
        expect(index >= 0, 4);
        return index;
    }

    private void literal(String word) {
        next();
        expect(token.equals(word), 1);
    }

    private int loadYard() {
        State fresh = new State();
        try {
            start();
            for (next(); !token.isEmpty(); next()) {
                setupStatement(fresh);
            }
            expect(!fresh.crateNames.isEmpty(), 7);
        } catch (Fault fault) {
            return report(fault);
        }
        report(null);
        now = fresh;
        saved = null;
        past.clear();
        return fresh.crateNames.size();
    }

    private void start() {
        tokens = TOKEN.matcher(input);
    }

    private int report(Fault fault) {
        errorCode = fault == null ? 0 : fault.code;
        errorOffset = fault == null ? -1 : fault.offset;
        input = "";
        return -1;
    }

    private void setupStatement(State fresh) {
        switch (token) {
            case "crate": {
                expect(fresh.crateNames.size() < 16, 6);
                String name = name();
                expect(!fresh.crateNames.contains(name), 3);
                int tare = number(1, 50);
                int goods = number(0, 500);
                next();
                int parent = -1;
                if (token.equals("in")) {
                    parent = known(fresh.crateNames);
                    expect(fresh.ancestors(parent).size() < 5, 5);
                    next();
                }
                expect(token.equals(";"), 1);
                fresh.addCrate(name, tare, goods, parent);
                return;
            }
            case "buyer": {
                expect(fresh.buyers.size() < 6, 6);
                String name = name();
                expect(!fresh.buyerNames.contains(name), 3);
                fresh.buyers.add(new int[] {number(0, 9999), number(0, 50), number(0, 100), 0});
                fresh.buyerNames.add(name);
                break;
            }
            case "noise": fresh.set("noise", number(0, 50)); break;
            case "seed": fresh.set("seed", number(0, 9999)); break;
            case "aging": fresh.set("aging", number(1, 100)); break;
            case "readings": fresh.set("readings", number(1, 9)); break;
            case "trust": fresh.set("trust", number(0, 100)); break;
            default: throw fault(1);
        }
        literal(";");
    }

    private int runScript() {
        List<Object[]> steps = new ArrayList<>();
        try {
            start();
            for (next(); !token.isEmpty(); next()) {
                steps.add(scriptStatement(steps.size()));
            }
        } catch (Fault fault) {
            return report(fault);
        }
        report(null);
        remember(now.copy());
        for (int i = 0; i < steps.size(); i++) {
            Object[] step = steps.get(i);
            try {
                for (int k = 0; k < (int) step[1]; k++) {
                    change((String) step[0], (int[]) step[2]);
                }
            } catch (Stop stop) {
                return i;
            }
        }
        return steps.size();
    }

    private static Object[] step(String name, int times, int... a) {
        return new Object[] {name, times, a};
    }

    private Object[] scriptStatement(int before) {
        String verb = token;
        expect(verb.matches("weigh|add|remove|move|takeout|spring|sell|noise|aging"), 1);
        expect(before < 30, 6);
        Object[] result;
        if (verb.equals("spring")) {
            result = step("replaceSpring", 1);
        } else if (verb.equals("noise")) {
            result = step("setAmplitude", 1, number(0, 50));
        } else if (verb.equals("aging")) {
            result = step("setAging", 1, number(1, 100));
        } else {
            result = crateStatement(verb, known(now.crateNames));
        }
        literal(";");
        return result;
    }

    private Object[] crateStatement(String verb, int crate) {
        switch (verb) {
            case "weigh": return step("weigh", number(1, 50), crate);
            case "add": return step("addGoods", 1, crate, number(1, 500));
            case "remove": return step("removeGoods", 1, crate, number(1, 500));
            case "takeout": return step("takeOut", 1, crate);
            case "move":
                literal("into");
                return step("moveInto", 1, crate, known(now.crateNames));
            default:
                literal("to");
                return step("sell", 1, crate, known(now.buyerNames));
        }
    }
}
