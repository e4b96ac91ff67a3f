import java.lang.reflect.InvocationTargetException;
import java.lang.reflect.Method;
import java.util.ArrayList;
import java.util.HashMap;
import java.util.List;
import java.util.Map;
import java.util.Random;

/** Random runs of calls, always the same ones, answered by the class and by the model. */
final class ModelRuns {
    private static final int CALLS = 512;
    private static final Map<String, Method> METHODS = new HashMap<>();
    private static final List<String> QUERIES = new ArrayList<>();
    private static final String[] CHANGES = {"weigh", "weigh", "weigh", "addGoods", "removeGoods", "moveInto", "moveInto",
        "takeOut", "replaceSpring", "sell", "sell", "setAmplitude", "setAging", "undo", "undo", "saveState",
        "restoreState", "writeTree"};
    private static final int[] EDGES = {0, 1, -1, 2, 5, 6, 15, 16, 49, 50, 51, 99, 100, 101, 499, 500, 501,
        Integer.MAX_VALUE, Integer.MIN_VALUE};
    private static final String[] WORDS = {"crate", "buyer", "noise", "seed", "aging", "readings", "trust", "in", "into",
        "to", "weigh", "add", "remove", "move", "takeout", "spring", "sell", ";", ";", "a", "b", "zzzzzz", "zzzzzzz",
        "zzzzzzzz", "zzzzzzzzz", "0", "1", "5", "50", "51", "100", "500", "501", "0001", "00001", "9999", "A", "-", "\t",
        "\0", "\u00e9", "1a", "a1"};

    static {
        for (Method method : CrateScale.class.getDeclaredMethods()) {
            if (java.lang.reflect.Modifier.isPublic(method.getModifiers())) {
                METHODS.put(method.getName(), method);
                boolean isText = List.of("appendInput", "truncateInput", "loadYard", "runScript").contains(method.getName());
                if (!isText && !List.of(CHANGES).contains(method.getName())) {
                    QUERIES.add(method.getName());
                }
            }
        }
        QUERIES.sort(null);
    }

    private final Random random;
    private final CrateScale real = new CrateScale();
    private final Model model = new Model();
    private final List<String> log = new ArrayList<>();
    private int calls = 0;
    private boolean differs = false;

    private ModelRuns(long seed) {
        random = new Random(seed);
    }

    static void all(int runs) {
        for (int seed = 1; seed <= runs; seed++) {
            ModelRuns run = new ModelRuns(seed);
            run.go();
            Check.isTrue("run of seed " + seed + "\n" + String.join("\n", run.differs ? run.log : List.of()), !run.differs);
            if (run.differs) {
                return;
            }
        }
    }

    private void go() {
        boolean calm = random.nextInt(3) > 0;
        if (random.nextInt(4) > 0) {
            type(setup());
            call("loadYard");
        }
        while (calls < CALLS && !differs) {
            int kind = random.nextInt(100);
            if (kind < 2) {
                type(random.nextInt(3) == 0 ? spoilt(setup()) : setup());
                call("loadYard");
            } else if (kind < 7) {
                String text = script(1 + random.nextInt(random.nextInt(8) == 0 ? 32 : 8));
                type(random.nextInt(4) == 0 ? spoilt(text) : text);
                call("runScript");
                call("errorCode");
                call("errorOffset");
            } else if (kind < 8) {
                call("truncateInput", edge());
                call("appendInput", random.nextInt(), random.nextInt(), random.nextInt(), random.nextInt(), random.nextInt());
            } else if (kind < 55) {
                any(CHANGES[random.nextInt(CHANGES.length)], calm);
                if (random.nextInt(3) == 0) {
                    call("isConsistent");
                }
            } else {
                any(QUERIES.get(random.nextInt(QUERIES.size())), calm);
            }
        }
    }

    private int edge() {
        return EDGES[random.nextInt(EDGES.length)];
    }

    private void any(String name, boolean calm) {
        int[] a = new int[METHODS.get(name).getParameterCount()];
        for (int i = 0; i < a.length; i++) {
            boolean isWild = random.nextInt(calm ? 40 : 12) == 0;
            a[i] = isWild ? edge() : likely(name, i);
        }
        call(name, a);
    }

    private int likely(String name, int i) {
        if (name.equals("setAmplitude") || name.equals("setAging")) {
            return random.nextInt(3) == 0 ? random.nextInt(3) : random.nextInt(51);
        }
        if (name.equals("outputByte")) {
            return random.nextInt(60);
        }
        if (i == 0) {
            return random.nextInt(name.matches("moneyOf|toleranceOf|trustOf|purchasesOf|buyerNameByte") ? 3 : 5);
        }
        if (name.matches("predictMean|worstErrorWithin")) {
            return 1 + random.nextInt(random.nextBoolean() ? 6 : 100);
        }
        if (name.equals("readingsUntilWithin")) {
            return random.nextInt(random.nextBoolean() ? 3 : 51);
        }
        if (name.equals("addGoods") || name.equals("removeGoods")) {
            return 1 + random.nextInt(random.nextBoolean() ? 20 : 500);
        }
        return random.nextInt(name.equals("moveInto") ? 6 : 3);
    }

    private void type(String text) {
        String padded = text + " ".repeat((600 - text.length()) % 20);
        call("truncateInput", 0);
        for (int i = 0; i < padded.length(); i += 20) {
            int[] a = new int[5];
            for (int k = 0; k < 20; k++) {
                a[k / 4] = a[k / 4] << 8 | padded.charAt(i + k) & 255;
            }
            call("appendInput", a);
        }
        call("truncateInput", text.length());
    }

    private void call(String name, int... a) {
        if (calls >= CALLS || differs) {
            return;
        }
        calls++;
        Object[] boxed = java.util.Arrays.stream(a).boxed().toArray();
        String got;
        try {
            got = String.valueOf(METHODS.get(name).invoke(real, boxed));
        } catch (InvocationTargetException e) {
            boolean isOwn = e.getCause().getStackTrace()[0].getClassName().startsWith("CrateScale");
            got = (isOwn ? "throws." : "the machine throws ") + e.getCause().getClass().getSimpleName();
        } catch (IllegalAccessException e) {
            throw new IllegalStateException(e);
        }
        String want = model.call(name, a);
        log.add(name + java.util.Arrays.toString(a) + " answered " + got);
        if (!got.equals(want)) {
            log.add("due is " + want);
            differs = true;
        }
    }

    private static String cut(StringBuilder text) {
        return text.length() > 600 ? text.substring(0, 600) : text.toString();
    }

    private String gap() {
        int kind = random.nextInt(12);
        return kind == 0 ? "\n" : kind == 1 ? "  " : " ";
    }

    private String nameOf(int i) {
        String[] names = {"a", "b", "c", "in", "to", "crate", "abcdef", "z", "fig", "into", "pear", "q", "r", "s", "t", "u",
            "v", "w", "x"};
        return names[i % names.length];
    }

    private String setup() {
        StringBuilder text = new StringBuilder();
        int crates = random.nextInt(10) == 0 ? 15 + random.nextInt(3) : 1 + random.nextInt(7);
        int chance = random.nextInt(4);
        for (int i = 0; i < crates; i++) {
            int name = random.nextInt(60) == 0 ? random.nextInt(i + 1) : i;
            text.append("crate").append(gap()).append(nameOf(name)).append(' ').append(1 + random.nextInt(50)).append(gap());
            text.append(random.nextInt(4) == 0 ? 500 : random.nextInt(30));
            if (i > 0 && random.nextInt(4) < chance + 1) {
                text.append(" in ").append(nameOf(random.nextInt(3) == 0 ? random.nextInt(i) : i - 1));
            }
            text.append(random.nextInt(9) == 0 ? "\n;" : ";");
        }
        int buyers = random.nextInt(12) == 0 ? 5 + random.nextInt(3) : random.nextInt(4);
        for (int i = 0; i < buyers; i++) {
            text.append("buyer ").append(nameOf(i)).append(gap()).append(random.nextInt(random.nextBoolean() ? 200 : 10000));
            text.append(' ').append(random.nextInt(51) / (1 + random.nextInt(20))).append(' ').append(random.nextInt(101)).append(";");
        }
        String[] settings = {"noise", "seed", "aging", "readings", "trust"};
        int[] ranges = {51, 10000, 101, 10, 101};
        for (int i = 0; i < random.nextInt(6); i++) {
            int which = random.nextInt(5);
            int value = random.nextInt(3) == 0 ? random.nextInt(ranges[which]) : 1 + random.nextInt(3);
            text.append(settings[which]).append(gap()).append(value).append(';');
        }
        return cut(text);
    }

    private String script(int statements) {
        StringBuilder text = new StringBuilder();
        String[] crates = new String[] {"a", "b", "c", "in", "to", "apple", "pear", "plum", "fig"};
        List<String> names = model.crateNames();
        List<String> buyers = model.buyerNames();
        for (int i = 0; i < statements; i++) {
            String first = random.nextInt(60) == 0 ? crates[random.nextInt(9)] : names.get(random.nextInt(names.size()));
            String second = names.get(random.nextInt(names.size()));
            String buyer = buyers.isEmpty() || random.nextInt(60) == 0 ? "amy" : buyers.get(random.nextInt(buyers.size()));
            switch (random.nextInt(11)) {
                case 0: case 1: case 2: text.append("weigh ").append(first).append(gap()).append(1 + random.nextInt(50)); break;
                case 3: text.append("add ").append(first).append(gap()).append(1 + random.nextInt(30)); break;
                case 4: text.append("remove ").append(first).append(gap()).append(1 + random.nextInt(5)); break;
                case 5: text.append("move ").append(first).append(" into ").append(second); break;
                case 6: text.append("takeout ").append(first); break;
                case 7: text.append("spring"); break;
                case 8: text.append("sell ").append(first).append(" to ").append(buyer); break;
                case 9: text.append("noise ").append(random.nextInt(51)); break;
                default: text.append("aging ").append(1 + random.nextInt(100)); break;
            }
            text.append(gap()).append(';');
        }
        return cut(text);
    }

    private String spoilt(String text) {
        StringBuilder spoilt = new StringBuilder(text);
        for (int i = 0; i <= random.nextInt(2); i++) {
            int at = random.nextInt(spoilt.length() + 1);
            String word = WORDS[random.nextInt(WORDS.length)];
            switch (random.nextInt(5)) {
                case 0: spoilt.insert(at, word); break;
                case 1: spoilt.insert(at, " " + word + " "); break;
                case 2: spoilt.setLength(at); break;
                case 3: replaceWord(spoilt, at, word); break;
                default:
                    if (at < spoilt.length()) {
                        spoilt.deleteCharAt(at);
                    }
            }
        }
        return cut(spoilt);
    }

    private static void replaceWord(StringBuilder text, int at, String word) {
        int start = at;
        int end = at;
        while (start > 0 && Character.isLetterOrDigit(text.charAt(start - 1))) {
            start--;
        }
        while (end < text.length() && Character.isLetterOrDigit(text.charAt(end))) {
            end++;
        }
        text.replace(start, end, word);
    }
}
