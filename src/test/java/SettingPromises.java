/** Promises 25 to 34: the spring, the settings and the predictions. */
final class SettingPromises {
    private SettingPromises() {
    }

    static void promise25() {
        CrateScale x = new CrateScale();
        Check.same("new", x.springAge(), 0);
        x.weigh(0);
        x.weigh(2);
        x.weigh(3);
        Check.same("three readings", x.springAge(), 3);
        x.addGoods(0, 1);
        Check.same("discarding leaves the age", x.springAge(), 3);
        x.replaceSpring();
        Check.same("replaced", x.springAge(), 0);
        x.undo();
        Check.same("undone", x.springAge(), 3);
    }

    static void promise26() {
        CrateScale x = new CrateScale();
        Check.weighOften(x, 0, 9);
        Check.same("age 9, aging 10", x.springSag(), 0);
        x.weigh(0);
        Check.same("age 10, aging 10", x.springSag(), 1);
        x.setAging(1);
        Check.same("age 10, aging 1", x.springSag(), 10);
        x.setAging(4);
        Check.same("age 10, aging 4", x.springSag(), 2);
        x.replaceSpring();
        Check.same("age 0", x.springSag(), 0);
    }

    static void promise27() {
        CrateScale x = new CrateScale();
        Check.same("at first", x.amplitude(), 4);
        x.setAmplitude(50);
        Check.same("set", x.amplitude(), 50);
        Check.same("not given", Check.yard("crate a 1 0;").amplitude(), 5);
        Check.same("given", Check.yard("noise 0;crate a 1 0;").amplitude(), 0);
    }

    static void promise28() {
        CrateScale x = new CrateScale();
        Check.same("at first", x.aging(), 10);
        x.setAging(100);
        Check.same("set", x.aging(), 100);
        Check.same("not given", Check.yard("crate a 1 0;").aging(), 50);
        Check.same("given", Check.yard("aging 1;crate a 1 0;").aging(), 1);
    }

    static void promise29() {
        Check.same("at first", new CrateScale().requiredReadings(), 2);
        Check.same("not given", Check.yard("crate a 1 0;").requiredReadings(), 2);
        Check.same("given", Check.yard("readings 9;crate a 1 0;").requiredReadings(), 9);
    }

    static void promise30() {
        Check.same("at first", new CrateScale().requiredTrust(), 30);
        Check.same("not given", Check.yard("crate a 1 0;").requiredTrust(), 0);
        Check.same("given", Check.yard("trust 100;crate a 1 0;").requiredTrust(), 100);
    }

    /** A yard with noises of 44, 4 and 40, a sag that grows with every reading, and a crate that is sold. */
    private static CrateScale rough() {
        CrateScale x = Check.yard("crate a 2 0;crate b 1 0;crate c 1 0 in b;buyer z 999 0 50;noise 50;seed 7;aging 1;readings 1;");
        x.setAmplitude(0);
        x.weigh(1);
        x.sell(1, 0);
        Check.load(x, "crate a 2 0;crate b 1 0;crate c 1 0 in b;buyer z 999 0 50;noise 50;seed 7;aging 1;readings 1;");
        return x;
    }

    private static CrateScale withSold() {
        CrateScale x = rough();
        x.weigh(1);
        x.sell(1, 0);
        return x;
    }

    static void promise31() {
        CrateScale x = rough();
        String before = Check.view(x);
        Check.same("first of a pair", x.predictReading(0), 2 + 44);
        Check.same("again", x.predictReading(0), 2 + 44);
        Check.same("nothing changed", Check.view(x), before);
        Check.element("a prediction is no change", () -> x.undo());
        x.weigh(0);
        x.setAmplitude(1);
        Check.same("second of a pair, whatever the amplitude is now", x.predictReading(0), 2 - 44 + 1);
        x.setAmplitude(50);
        Check.same("first of another crate", x.predictReading(2), 1 + 4 + 1);
        CrateScale y = withSold();
        Check.state("a sold crate", () -> y.predictReading(1));
        Check.state("a crate inside a sold one", () -> y.predictReading(2));
        Check.range("crate 3", () -> y.predictReading(3));
        Check.range("crate -1", () -> y.predictReading(-1));
    }

    static void promise32() {
        CrateScale x = rough();
        String before = Check.view(x);
        Check.same("one", x.predictMean(0, 1), 46);
        Check.same("two: 46 and -41", x.predictMean(0, 2), 3);
        Check.same("three: 46, -41 and 8", x.predictMean(0, 3), 4);
        Check.same("a hundred: 2 and sags of 0 to 99", x.predictMean(0, 100), 2 + 50);
        Check.same("nothing changed", Check.view(x), before);
        x.weigh(0);
        Check.same("one more", x.predictMean(0, 1), 3);
        CrateScale y = withSold();
        Check.state("a sold crate", () -> y.predictMean(2, 1));
        Check.argument("0 readings of a sold crate", () -> y.predictMean(2, 0));
        Check.argument("0 readings", () -> y.predictMean(0, 0));
        Check.argument("101 readings", () -> y.predictMean(0, 101));
        Check.argument("the least int", () -> y.predictMean(0, Integer.MIN_VALUE));
        Check.range("crate 3 and 0 readings", () -> y.predictMean(3, 0));
        Check.range("crate -1", () -> y.predictMean(-1, 1));
    }

    static void promise33() {
        CrateScale x = Check.yard("crate a 2 0;noise 50;seed 7;aging 100;");
        String before = Check.view(x);
        Check.same("no reading yet, even with a wide tolerance", x.readingsUntilWithin(0, 50), 1);
        Check.same("44 is within 44", x.readingsUntilWithin(0, 44), 1);
        Check.same("44 is not within 43", x.readingsUntilWithin(0, 43), 2);
        Check.same("0 after a pair", x.readingsUntilWithin(0, 0), 2);
        Check.same("nothing changed", Check.view(x), before);
        x.weigh(0);
        Check.same("within 44 now", x.readingsUntilWithin(0, 44), 0);
        Check.same("within 0 after one more", x.readingsUntilWithin(0, 0), 1);
        x.weigh(0);
        Check.same("within 0 now", x.readingsUntilWithin(0, 0), 0);
        CrateScale old = Check.yard("crate a 2 0;crate b 2 0;noise 0;aging 1;");
        Check.weighOften(old, 1, 3);
        Check.same("sags of 3 and more are never within 2", old.readingsUntilWithin(0, 2), CrateScale.NONE);
        Check.same("the mean of 3 is within 3", old.readingsUntilWithin(0, 3), 1);
        hundredReadings();
        CrateScale y = withSold();
        Check.state("a sold crate", () -> y.readingsUntilWithin(1, 0));
        Check.argument("tolerance 51 of a sold crate", () -> y.readingsUntilWithin(1, 51));
        Check.argument("tolerance -1", () -> y.readingsUntilWithin(0, -1));
        Check.argument("tolerance 51", () -> y.readingsUntilWithin(0, 51));
        Check.range("crate 3 and tolerance 51", () -> y.readingsUntilWithin(3, 51));
        Check.range("crate -1", () -> y.readingsUntilWithin(-1, 0));
    }

    /** A stored sag of 51 and then none: the rounded mean error falls to 0 when 51 / (n + 1) is below a half. */
    private static void hundredReadings() {
        CrateScale x = Check.yard("crate a 2 0;crate b 2 0;noise 0;aging 1;");
        Check.weighOften(x, 1, 51);
        x.weigh(0);
        x.replaceSpring();
        x.setAging(100);
        Check.same("102 readings after the first one would be needed", x.readingsUntilWithin(0, 0), CrateScale.NONE);
        CrateScale y = Check.yard("crate a 2 0;crate b 2 0;noise 0;aging 1;");
        Check.weighOften(y, 1, 50);
        y.weigh(0);
        y.replaceSpring();
        y.setAging(100);
        Check.same("50 / 101 is below a half", y.readingsUntilWithin(0, 0), 100);
    }

    static void promise34() {
        CrateScale x = Check.yard("crate a 2 0;crate b 2 0;noise 50;seed 7;aging 100;");
        String before = Check.view(x);
        Check.same("44", x.worstErrorWithin(0, 1), 44);
        Check.same("44 and 0", x.worstErrorWithin(0, 2), 44);
        Check.same("nothing changed", Check.view(x), before);
        x.weigh(0);
        Check.same("the mean of now does not count", x.worstErrorWithin(0, 1), 0);
        Check.same("0 and 4 / 3", x.worstErrorWithin(0, 2), 1);
        Check.same("0, 1, 0 and 40 / 5", x.worstErrorWithin(0, 4), 8);
        CrateScale low = Check.yard("crate a 2 0;noise 50;seed 9999;");
        Check.same("an error below 0", low.worstErrorWithin(0, 100), 46);
        CrateScale y = withSold();
        Check.state("a sold crate", () -> y.worstErrorWithin(2, 100));
        Check.argument("0 readings of a sold crate", () -> y.worstErrorWithin(2, 0));
        Check.argument("0 readings", () -> y.worstErrorWithin(0, 0));
        Check.argument("101 readings", () -> y.worstErrorWithin(0, 101));
        Check.range("crate 3 and 0 readings", () -> y.worstErrorWithin(3, 0));
        Check.range("crate -1", () -> y.worstErrorWithin(-1, 1));
    }
}
