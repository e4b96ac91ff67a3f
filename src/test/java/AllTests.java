import java.lang.reflect.InvocationTargetException;
import java.lang.reflect.Method;
import java.util.TreeSet;

/** Runs every test of the project; a number as the argument sets how many random runs there are. */
public final class AllTests {
    private static final int PROMISES = 64;
    private static final Class<?>[] GROUPS = {TextPromises.class, CratePromises.class, SettingPromises.class,
        BuyerPromises.class, TotalPromises.class, ChangePromises.class, OutputPromises.class};

    private static final Class<?>[] QUOTING = {CrateAnswers.class, ForecastAnswers.class, BuyerAnswers.class, ChangeAnswers.class,
        TextAnswers.class, YardBounds.class, ReadingBounds.class, PredictionBounds.class, BuyerBounds.class,
        InputBounds.class, SetupBounds.class, ScriptBounds.class, ChangeBounds.class, OutputBounds.class};

    private AllTests() {
    }

    public static void main(String[] args) throws IllegalAccessException {
        TreeSet<Integer> tested = new TreeSet<>();
        for (Class<?> group : GROUPS) {
            for (Method test : group.getDeclaredMethods()) {
                if (test.getName().matches("promise\\d+")) {
                    tested.add(Integer.parseInt(test.getName().substring(7)));
                    run(test);
                }
            }
        }
        for (int i = 1; i <= PROMISES; i++) {
            Check.isTrue("a test of promise " + i, tested.contains(i));
        }
        sentences();
        FaceRules.all();
        ModelRuns.all(args.length > 0 ? Integer.parseInt(args[0]) : 400);
        System.out.println(Check.passed + " passed, " + Check.failed + " failed");
        if (Check.failed != 0) {
            System.exit(1);
        }
    }

    /** Each sentence of the document has a test that quotes it. */
    private static void sentences() throws IllegalAccessException {
        Document document = new Document();
        for (Class<?> group : QUOTING) {
            for (Method test : group.getDeclaredMethods()) {
                Sentence sentence = test.getAnnotation(Sentence.class);
                if (sentence != null) {
                    for (String says : sentence.says()) {
                        String what = group.getName() + "." + test.getName() + " quotes " + sentence.in() + ": " + says;
                        Check.isTrue(what, document.isTold(sentence.in(), says));
                    }
                    run(test);
                }
            }
        }
        IndexBounds.all(document);
        Check.same("sentences without a test", String.join("\n", document.untested()), "");
    }

    private static void run(Method test) throws IllegalAccessException {
        int failed = Check.failed;
        try {
            test.invoke(null);
        } catch (InvocationTargetException e) {
            Check.same(test.getName(), e.getCause(), "no exception");
            e.getCause().printStackTrace(System.out);
        }
        if (Check.failed != failed) {
            System.out.println("  in " + test.getName());
        }
    }
}
