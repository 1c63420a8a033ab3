/** Promises 9 to 11: the tape, laws and their faults, and what a text means. */
public final class LawTest {
    public static void main(String[] args) {
        feed();
        badCalls();
        sixLaws();
        tokens();
        misplaced();
        tooMuch();
        noNames();
        values();
        names();
        tollsAreAdded();
        whichIsInForce();
        Check.finish();
    }

    private static void feed() {
        LogRiver x = new LogRiver();
        Check.due("the first", x.feed(0, 0, 0, 0, 0), 20);
        for (int n = 40; n <= 500; n += 20) {
            Check.due("feed to " + n, x.feed(-1, -1, -1, -1, -1), n);
        }
        Check.due("more than 500", x.feed(1, 2, 3, 4, 5), -1);
        Check.due("none came", x.count(9), 500);
        x.law(0, 0);
        Check.due("the tape is empty", x.count(9), 0);
        Check.due("again", x.feed(1, 2, 3, 4, 5), 20);
        Check.due("of each the highest byte first", law("bar 1;toll 2;bar 345;"), "0 -1");
    }

    private static void badCalls() {
        LogRiver x = new LogRiver();
        Check.due("a fault", Check.tell(x, "bar x;", 0), -4);
        Check.feed(x, "bar 1;");
        Check.badArgument("law(21, 0)", () -> x.law(21, 0));
        Check.badArgument("law(-1, 0)", () -> x.law(-1, 0));
        Check.badArgument("law(6, -1)", () -> x.law(6, -1));
        Check.badArgument("law(6, 1001)", () -> x.law(6, 1001));
        Check.due("the tape stays", x.count(9), 20);
        Check.due("the fault stays", x.fault(), 4);
        Check.due("no law", x.count(3), 0);
        Check.due("law(20, 1000)", x.law(20, 1000), 0);
        Check.due("fault()", x.fault(), -1);
        Check.badArgument("law(1, 0)", () -> x.law(1, 0));
        Check.due("an empty text", x.law(0, 0), 1);
        Check.due("a fault", Check.tell(x, "bar", 0), -2);
        Check.due("a text with a fault is no law", x.count(3), 2);
        Check.due("the tape is empty then too", x.count(9), 0);
    }

    private static void sixLaws() {
        LogRiver x = new LogRiver();
        for (int i = 0; i < 6; i++) {
            Check.due("law " + i, Check.tell(x, "toll " + i + ";", i), i);
        }
        Check.due("the seventh", Check.tell(x, "toll 6;", 6), -9);
        Check.due("its tape is empty", x.count(9), 0);
        Check.due("without a fault", x.fault(), -1);
        Check.due("count(3)", x.count(3), 6);
        Check.due("the seventh, with a fault", Check.tell(x, "toll x;", 6), -9);
        Check.due("it isn't read", x.fault(), -1);
    }

    /** What law() answers for a text on a new object, and fault(). */
    private static String law(String text) {
        LogRiver x = new LogRiver();
        int answer = Check.tell(x, text, 0);
        return answer + " " + x.fault();
    }

    private static void fault(String text, int kind, int place) {
        Check.due(text, law(text), (-1 - kind) + " " + place);
    }

    private static void fine(String text) {
        Check.due(text, law(text), "0 -1");
    }

    private static void tokens() {
        fine("");
        fine("   \n ");
        fine("bar 1;");
        fine("bar1;toll2;");
        fine(" \nbar\n1 ; ");
        fine("bar(1)and(2)or not(3);");
        fine("bar 1and 2or 3;");
        fine("bar 000001;");
        fine("toll mark+size-stump*hour/day<reach;");
        fine("toll age=1;");
        fault("bar\t1;", 1, 3);
        fault("bar\r1;", 1, 3);
        fault("bar 1>2;", 1, 5);
        fault("Bar 1;", 1, 0);
        fault("bar" + (char) 0 + "1;", 1, 3);
        fault("bar " + (char) 255 + ";", 1, 4);
        fault("bar1and2or3 x;", 1, 12);
        fault("barr 1;", 1, 0);
        fault("far 1;", 1, 0);
        fault("bar fark;", 3, 4);
        fault("bar sizes;", 3, 4);
        fault("bar siz;", 3, 4);
    }

    private static void misplaced() {
        fault("bar", 1, 3);
        fault("bar  ", 1, 5);
        fault("bar 1", 1, 5);
        fault("bar 1 ", 1, 6);
        fault("bar (1", 1, 6);
        fault("bar not", 1, 7);
        fault("bar 1 <", 1, 7);
        fault("bar ;", 1, 4);
        fault("bar 1;;", 1, 6);
        fault("1;", 1, 0);
        fault("size;", 1, 0);
        fault("bar 1; size", 1, 7);
        fault("bar 1 2;", 1, 6);
        fault("bar 1 size;", 1, 6);
        fault("bar 1 1234567;", 1, 6);
        fault("bar 1 not 2;", 1, 6);
        fault("bar 1 bar 2;", 1, 6);
        fault("bar 1);", 1, 5);
        fault("bar (1;", 1, 6);
        fault("bar ();", 1, 5);
        fault("bar 1 < 2 < 3;", 1, 10);
        fault("bar 1 = 2 < 3;", 1, 10);
        fault("bar 1 < 2 and 3 = 4 = 5;", 1, 20);
        fine("bar 1 < 2 and 3 = 4;");
        fine("bar (1 < 2) < (3 = 4);");
        fault("bar + 1;", 1, 4);
        fault("bar - 1;", 1, 4);
        fault("bar 1 + * 2;", 1, 8);
        fault("bar < 1;", 1, 4);
        fault("1234567", 1, 0);
    }

    private static void tooMuch() {
        fine("bar 999999;");
        fault("bar 1000000;", 2, 4);
        fault("bar 0000000;", 2, 4);
        fault("bar 1 + 12345678901234567890;", 2, 8);
        StringBuilder rules = new StringBuilder();
        for (int i = 0; i < 12; i++) {
            rules.append("bar 1;");
        }
        fine(rules.toString());
        fine(rules + "  ");
        fault(rules + " bar 1;", 2, 73);
        fault(rules + "toll", 2, 72);
        fault(rules + "1", 1, 72);
        fault(rules + "size", 1, 72);
        fine("bar (((((((1)))))));");
        fine("bar (((((((1))))))) + (((((((2)))))));");
        fault("bar ((((((((1))))))));", 2, 12);
        fault("bar ((((((((not 1))))))));", 2, 12);
        fault("bar ((((((((size))))))));", 2, 12);
        fault("bar ((((((((  (1)))))))));", 2, 14);
        fault("bar (((((((((1)))))))));", 2, 12);
        fault("bar ((((((((1234567))))))));", 2, 12);
        fault("bar (((((((())))))));", 1, 12);
        fault("bar ((((((((;", 1, 12);
        fault("bar ((((((((", 1, 12);
        fault("bar ((((((((x))))))));", 3, 12);
        fault("bar (((((((1 + 1 < 1234567)))))));", 2, 19);
    }

    private static void noNames() {
        fault("bar x;", 3, 4);
        fault("bar and 1;", 3, 4);
        fault("bar bar;", 3, 4);
        fault("bar not not 1;", 3, 8);
        fault("bar 1 + not 1;", 3, 8);
        fault("bar 1 < not 1;", 3, 8);
        fault("bar 1 and and;", 3, 10);
        fault("toll toll;", 3, 5);
        fault("bar (x;", 3, 5);
        fault("bar marks;", 3, 4);
        fault("bar hours;", 3, 4);
        fine("bar 1 and not 1;");
        fine("bar (not 1);");
        fault("bar x 1234567 $;", 3, 4);
        fault("bar 1234567 x;", 2, 4);
    }

    /** A river of one cell whose boom catches all: what a log that comes into its heap pays by a text. */
    private static long toll(String text, int mark, int size, int stump) {
        LogRiver x = new LogRiver();
        x.reach(-1, 1, 20, 0);
        x.melt(0, 100);
        x.boom(0, -1, 100);
        Check.due(text, Check.tell(x, text, 0), 0);
        x.cut(mark, size, stump);
        x.let(0, 0, 0);
        x.hours(1);
        return x.paid(mark);
    }

    private static void value(String expr, long want) {
        Check.due("the value of " + expr, toll("toll " + expr + ";", 3, 4, 77), want);
    }

    private static void values() {
        value("2 + 3 * 4", 14);
        value("20 - 5 - 4", 11);
        value("100 / 5 / 2", 10);
        value("100 / 5 * 2", 40);
        value("7 / 2 * 2", 6);
        value("(0 - 7) / 2", -3);
        value("7 / (0 - 2)", -3);
        value("5 / 0", 0);
        value("5 / 0 + 1", 1);
        value("1 < 2", 1);
        value("2 < 2", 0);
        value("2 = 2", 1);
        value("1 + 1 = 2", 1);
        value("0 - 1 < 0", 1);
        value("not 5", 0);
        value("not 0", 1);
        value("not 2 < 1", 1);
        value("not 1 < 2", 0);
        value("not 0 + 1", 0);
        value("5 and 7", 1);
        value("5 and 0", 0);
        value("5 or 0", 1);
        value("0 or 0", 0);
        value("0 or 0 - 3", 1);
        value("1 or 1 and 0", 0);
        value("0 and 0 or 1", 1);
        value("1 or (1 and 0)", 1);
        value("not 1 or 1", 1);
        value("not (1 or 1)", 0);
        value("65536 * 65536", 0);
        value("65536 * 32768", Integer.MIN_VALUE);
        value("65536 * 32768 / (0 - 1)", Integer.MIN_VALUE);
        value("65536 * 32768 - 1", Integer.MAX_VALUE);
        value("1 < 2 + 1 and 3", 1);
        value("1 and 2 < 1 + 2 * (1 and 2 < 1 + 2 * (1 and 2 < 1 + 2 * (1 and 2 < 1 + 2 * (1))))", 1);
        value("3 and 3 = 1 + 2 * (9 and 3 = 1 + 2 * (9 and 3 = 1 + 2 * (9 and 3 = 1 + 2 * (9 and 3 = 1 + 2 * "
            + "(9 and 3 = 1 + 2 * (9 and 3 = 1 + 2 * (9 and 3 = 1 + 2 * 1)))))))", 1);
    }

    private static void names() {
        value("mark", 3);
        value("size", 4);
        value("stump", 77);
        value("hour", 0);
        value("day", 0);
        value("reach", 0);
        value("age", 0);
        LogRiver x = new LogRiver();
        x.reach(-1, 1, 20, 0);
        x.reach(0, 3, 20, 0);
        x.melt(1, 100);
        x.boom(1, 1, 100);
        Check.due("a law of names", Check.tell(x, "toll hour; toll day * 100; toll age * 1000; toll reach * 10000;", 0), 0);
        x.hours(50);
        x.cut(0, 9, 0);
        x.let(0, 1, 0);
        x.hours(3);
        Check.due("in the HOUR 52, of 2 hours AFLOAT so far", x.paid(0), 12204);
    }

    private static void tollsAreAdded() {
        Check.due("all 'toll's", toll("toll 1; bar 0; toll 20; toll 0 - 300;", 1, 1, 1), -279);
        Check.due("no 'toll'", toll("bar 0;", 1, 1, 1), 0);
        Check.due("the sum doesn't wrap", toll("toll 65536 * 32767; toll 65536 * 32767;", 1, 1, 1), 4294836224L);
    }

    private static void whichIsInForce() {
        LogRiver x = new LogRiver();
        x.reach(-1, 1, 20, 0);
        x.melt(0, 100);
        x.boom(0, -1, 100);
        Check.tell(x, "toll 1;", 2);
        Check.tell(x, "toll 10;", 1);
        Check.tell(x, "toll 100;", 1);
        Check.tell(x, "toll 1000;", 3);
        for (int hour = 0; hour < 96; hour++) {
            x.cut(0, 1, 0);
            x.let(hour, 0, 0);
            long before = x.paid(0);
            x.hours(1);
            long[] want = {0, 100, 1, 1000};
            Check.due("in the HOUR " + hour, x.paid(0) - before, want[hour / 24]);
        }
    }
}
