/** The boundaries that promises 9 to 11, and part 2 of the Terms, name: the tape, laws, their faults, what they mean. */
public final class LawBoundaryTest {
    private static final int LEAST = Boundaries.LEAST;
    private static final int GREATEST = Boundaries.GREATEST;

    public static void main(String[] args) {
        Boundaries.run(LawBoundaryTest.class);
    }

    // ---- promise 9: feed

    private static void fill(LogRiver x, int feeds) {
        for (int k = 1; k <= feeds; k++) {
            Check.due("feed " + k, x.feed(0x20202020, 0x20202020, 0x20202020, 0x20202020, 0x20202020), 20 * k);
        }
    }

    static void promise09_emptyTape() {
        LogRiver x = new LogRiver();
        Check.due("bytes at first", x.count(9), 0);
        Check.due("the first feed", x.feed(0, 0, 0, 0, 0), 20);
    }

    static void promise09_justFull() {
        LogRiver x = new LogRiver();
        fill(x, 25);
        Check.due("bytes", x.count(9), 500);
    }

    static void promise09_moreThanFull() {
        Boundaries.refused("the 26th feed", x -> fill(x, 25), x -> x.feed(1, 2, 3, 4, 5), "-1");
        LogRiver x = new LogRiver();
        fill(x, 25);
        x.feed(0x78787878, 0x78787878, 0x78787878, 0x78787878, 0x78787878);
        Check.due("the bytes that were there are the text", x.law(500, 0), 0);
    }

    static void promise09_emptiedAndFullAgain() {
        LogRiver x = new LogRiver();
        fill(x, 25);
        x.law(0, 0);
        fill(x, 25);
        Check.due("more", x.feed(1, 2, 3, 4, 5), -1);
    }

    static void promise09_highestByteFirst() {
        LogRiver x = new LogRiver();
        x.feed(0x62617220, 0x313B746F, 0x6C6C2032, 0x3B626172, 0x2033343B);
        Check.due("bar 1;toll 2;bar 34;", x.law(20, 0), 0);
        LogRiver y = new LogRiver();
        y.feed(0x20726162, 0x20202020, 0x20202020, 0x20202020, 0x20202020);
        Check.due("a blank, then rab", y.law(4, 0), -2);
        Check.due("its place", y.fault(), 1);
    }

    static void promise09_numbersBelowZero() {
        LogRiver x = new LogRiver();
        x.feed(0x6261723B, LEAST, -1, GREATEST, 0);
        Check.due("bytes", x.count(9), 20);
        Check.due("bar; is a fault", x.law(20, 0), -2);
        Check.due("at ;", x.fault(), 3);
        LogRiver y = new LogRiver();
        y.feed(0x20202020, 0x202020FF, LEAST, -1, GREATEST);
        Check.due("byte 255 is no TOKEN", y.law(20, 0), -2);
        Check.due("its place", y.fault(), 7);
        LogRiver z = new LogRiver();
        z.feed(0x20202020, LEAST, 0, 0, 0);
        Check.due("byte 128 is no TOKEN", z.law(20, 0), -2);
        Check.due("its place", z.fault(), 4);
    }

    static void promise09_behindWhatIsThere() {
        LogRiver x = new LogRiver();
        Check.feed(x, "toll 1 + 1 + 1 + 1 +");
        Check.feed(x, "size;");
        Check.due("one text of two feeds", x.law(25, 0), 0);
    }

    // ---- promise 10: law, the call

    static void promise10_nBelowZero() {
        Boundaries.refusedByBadArgument("law(-1, 0)", x -> x.law(-1, 0));
        Boundaries.refusedByBadArgument("law(the least, 0)", x -> x.law(LEAST, 0));
    }

    static void promise10_nZero() {
        LogRiver x = new LogRiver();
        Check.due("of an empty tape", x.law(0, 0), 0);
        Check.feed(x, "x");
        Check.due("of a tape with a fault on it", x.law(0, 0), 1);
        Check.due("the tape", x.count(9), 0);
    }

    static void promise10_nWhatTheTapeHas() {
        LogRiver x = new LogRiver();
        Check.feed(x, "bar 0;");
        Check.due("law(20, 0)", x.law(20, 0), 0);
    }

    static void promise10_nMoreThanTheTapeHas() {
        Boundaries.refusedByBadArgument("law(21, 0)", x -> x.law(21, 0));
        Boundaries.refusedByBadArgument("law(500, 0)", x -> x.law(500, 0));
        Boundaries.refusedByBadArgument("law(501, 0)", x -> x.law(501, 0));
        Boundaries.refusedByBadArgument("law(the greatest, 0)", x -> x.law(GREATEST, 0));
        LogRiver x = new LogRiver();
        Check.badArgument("of an empty tape", () -> x.law(1, 0));
        fill(x, 25);
        Check.badArgument("of a full tape", () -> x.law(501, 0));
        Check.due("the tape", x.count(9), 500);
    }

    static void promise10_nLessThanTheTapeHas() {
        LogRiver x = new LogRiver();
        Check.feed(x, "bar 0;xyz");
        Check.due("what is behind it is not read", x.law(6, 0), 0);
        Check.due("and gone", x.count(9), 0);
        Check.feed(x, "toll 2;");
        Check.due("the next text begins anew", x.law(7, 0), 1);
    }

    static void promise10_nWithinAToken() {
        fault("bar size;", 7, 3, 4);
        fault("bar 1;toll 1;", 8, 1, 6);
        LogRiver x = new LogRiver();
        Check.feed(x, "bar 1234567;");
        Check.due("six digits of seven", x.law(10, 0), -2);
        Check.due("then it ends too soon", x.fault(), 10);
    }

    static void promise10_textOf500Bytes() {
        StringBuilder sum = new StringBuilder("toll 1");
        while (sum.length() < 498) {
            sum.append("+1");
        }
        fault(sum.toString(), 1, 498);
        Check.due("499 bytes", sum.append(';').length(), 499);
        Check.due("a sum of 247", toll(sum.toString()), 247);
        sum.append(' ');
        Check.due("500 bytes", toll(sum.toString()), 247);
        sum.setCharAt(499, 'x');
        fault(sum.toString(), 1, 499);
        sum.setCharAt(498, '+');
        sum.setCharAt(499, '1');
        fault(sum.toString(), 1, 500);
    }

    static void promise10_dayTooSmall() {
        Boundaries.refusedByBadArgument("law(6, -1)", x -> x.law(6, -1));
        Boundaries.refusedByBadArgument("law(6, the least)", x -> x.law(6, LEAST));
        Boundaries.refusedByBadArgument("law(0, -1)", x -> x.law(0, -1));
    }

    static void promise10_dayTooLarge() {
        Boundaries.refusedByBadArgument("law(6, 1001)", x -> x.law(6, 1001));
        Boundaries.refusedByBadArgument("law(6, the greatest)", x -> x.law(6, GREATEST));
    }

    static void promise10_daySmallest() {
        Check.due("DAY 0 is in force at once", toll("toll 3;"), 3);
    }

    static void promise10_dayLargest() {
        LogRiver x = Boundaries.catching(5);
        Check.due("DAY 1000", Check.tell(x, "toll 3;", 1000), 0);
        Boundaries.pass(x, 19999);
        Boundaries.letGo(x, 1, 0, 9, 0, 0);
        x.hours(1);
        Check.due("it never comes", x.paid(0), 0);
        Check.due("the last HOUR", x.count(0), 20000);
    }

    private static void tellSixLaws(LogRiver x) {
        for (int law = 0; law < 6; law++) {
            Check.due("law " + law, Check.tell(x, "toll " + law + ";", 0), law);
        }
    }

    static void promise10_sixthIsALaw() {
        LogRiver x = Boundaries.catching(5);
        tellSixLaws(x);
        Check.due("count(3)", x.count(3), 6);
        Boundaries.letGo(x, 1, 0, 9, 0, 0);
        x.hours(1);
        Check.due("the sixth is in force", x.paid(0), 5);
    }

    static void promise10_seventhIsRefused() {
        LogRiver x = Boundaries.catching(5);
        tellSixLaws(x);
        Check.due("the seventh", Check.tell(x, "toll 6;", 0), -9);
        Check.due("count(3)", x.count(3), 6);
        Check.due("fault()", x.fault(), -1);
        Check.due("an empty one", x.law(0, 0), -9);
        Boundaries.letGo(x, 1, 0, 9, 0, 0);
        x.hours(1);
        Check.due("the sixth is still in force", x.paid(0), 5);
    }

    static void promise10_seventhWithABadArgument() {
        LogRiver x = new LogRiver();
        tellSixLaws(x);
        Check.feed(x, "toll 6;");
        Check.badArgument("law(21, 0)", () -> x.law(21, 0));
        Check.badArgument("law(-1, 0)", () -> x.law(-1, 0));
        Check.badArgument("law(7, 1001)", () -> x.law(7, 1001));
        Check.due("the tape", x.count(9), 20);
    }

    static void promise10_faultTakesNoNumber() {
        LogRiver x = new LogRiver();
        for (int k = 0; k < 8; k++) {
            Check.due("a fault", Check.tell(x, "bar", 0), -2);
            Check.due("the tape is empty then", x.count(9), 0);
        }
        Check.due("count(3)", x.count(3), 0);
        tellSixLaws(x);
    }

    static void promise10_faultIsNotInForce() {
        LogRiver x = Boundaries.catching(5);
        Check.tell(x, "toll 3;", 0);
        Check.due("a fault in its second RULE", Check.tell(x, "toll 9; bar", 0), -2);
        Boundaries.letGo(x, 1, 0, 9, 0, 0);
        x.hours(1);
        Check.due("paid by the one ahead", x.paid(0), 3);
    }

    // ---- promise 10: which law is in force

    /** What a log pays that comes into a heap in this hour. */
    private static long paidIn(LogRiver x, int hour) {
        Boundaries.pass(x, hour - x.count(0));
        long before = x.paid(0);
        Boundaries.letGo(x, 1, 0, 9, 0, 0);
        x.hours(1);
        return x.paid(0) - before;
    }

    static void promise10_firstHourOfItsDay() {
        LogRiver x = Boundaries.catching(5);
        Check.tell(x, "toll 3;", 2);
        Check.due("HOUR 47", paidIn(x, 47), 0);
        Check.due("HOUR 48", paidIn(x, 48), 3);
    }

    static void promise10_latestDayWins() {
        LogRiver x = Boundaries.catching(9);
        Check.tell(x, "toll 30;", 3);
        Check.tell(x, "toll 10;", 1);
        Check.tell(x, "toll 20;", 2);
        Check.due("HOUR 23", paidIn(x, 23), 0);
        Check.due("HOUR 24", paidIn(x, 24), 10);
        Check.due("HOUR 47", paidIn(x, 47), 10);
        Check.due("HOUR 48", paidIn(x, 48), 20);
        Check.due("HOUR 71", paidIn(x, 71), 20);
        Check.due("HOUR 72", paidIn(x, 72), 30);
    }

    static void promise10_likeDaysLaterToldWins() {
        LogRiver x = Boundaries.catching(9);
        Check.tell(x, "toll 1;", 1);
        Check.tell(x, "toll 2;", 1);
        Check.due("HOUR 24", paidIn(x, 24), 2);
        Check.tell(x, "toll 3;", 1);
        Check.due("told on its own DAY", paidIn(x, 25), 3);
        Check.tell(x, "toll 4;", 0);
        Check.due("told for a DAY that is gone", paidIn(x, 26), 3);
    }

    static void promise10_emptyLawEndsAnother() {
        LogRiver x = Boundaries.catching(9);
        Check.tell(x, "toll 7; bar 1;", 0);
        Check.tell(x, "", 1);
        Check.due("BARRED on DAY 0", Boundaries.letGo(x, 1, 0, 9, 0, 0), 0);
        Check.due("no rules on DAY 1", paidIn(x, 24), 0);
        Check.due("not BARRED", x.log(1, 3), 2);
    }

    // ---- promise 10: tokens

    /** A text's first n bytes have this fault at this place. */
    private static void fault(String text, int n, int kind, int place) {
        LogRiver x = new LogRiver();
        Check.feed(x, text);
        Check.due("law of " + text, x.law(n, 0), -1 - kind);
        Check.due("fault of " + text, x.fault(), place);
    }

    private static void fault(String text, int kind, int place) {
        fault(text, text.length(), kind, place);
    }

    private static void fine(String text) {
        LogRiver x = new LogRiver();
        Check.due("law of " + text, Check.tell(x, text, 0), 0);
        Check.due("fault of " + text, x.fault(), -1);
    }

    static void promise10_textWithoutRules() {
        fine("");
        fine(" ");
        fine("\n");
        fine(" \n \n ");
    }

    static void promise10_blanksOf32And10Alone() {
        fine("bar 1;");
        fine("bar\n1;");
        for (int b = 0; b < 256; b++) {
            boolean isBlank = b == 32 || b == 10;
            boolean isOther = b >= 'a' && b <= 'z' || b >= '0' && b <= '9' || b == '(';
            if (!isBlank && !isOther) {
                fault("bar " + (char) b + " 1;", 1, 4);
            }
        }
    }

    static void promise10_bytesBesideTheLettersAndDigits() {
        fault("bar `;", 1, 4);
        fault("bar {;", 1, 4);
        fault("bar :;", 1, 4);
        fault("bar A;", 1, 4);
        fault("bar Z;", 1, 4);
        fine("bar 0 + 9;");
        fault("bar a;", 3, 4);
        fault("bar z;", 3, 4);
    }

    static void promise10_wordsAreTheLongestRow() {
        fault("barmark;", 1, 0);
        fault("bar notmark;", 3, 4);
        fault("bar 1 andmark;", 1, 6);
        fault("bar marka;", 3, 4);
        fault("bar mar k;", 3, 4);
        fine("bar 1and 1;");
        fine("bar1;");
    }

    static void promise10_wordsThatAreNearlyNames() {
        for (String name : new String[] {"mark", "size", "stump", "hour", "day", "reach", "age"}) {
            fine("bar " + name + ";");
            fault("bar " + name + name.charAt(0) + ";", 3, 4);
            fault("bar " + name.substring(1) + ";", 3, 4);
            fault("bar z" + name.substring(1) + ";", 3, 4);
            fault("bar " + name.substring(0, name.length() - 1) + ";", 3, 4);
        }
    }

    static void promise10_wordsThatNearlyBeginARule() {
        for (String word : new String[] {"ba", "barr", "ar", "car", "bat", "tol", "tolls", "oll", "roll", "b", "rab"}) {
            fault(word + " 1;", 1, 0);
        }
    }

    static void promise10_numberOfSixDigits() {
        fine("bar 999999;");
        fine("bar 000000;");
        Check.due("999999", toll("toll 999999;"), 999999);
        Check.due("000007", toll("toll 000007;"), 7);
    }

    static void promise10_numberOfSevenDigits() {
        fault("bar 1000000;", 2, 4);
        fault("bar 0000001;", 2, 4);
        fault("bar 1234567890123456789012345678901234567890;", 2, 4);
        fault("bar 1 1234567;", 1, 6);
        fault("1234567;", 1, 0);
        fine("bar 123456+1234;");
    }

    // ---- promise 10: rules

    private static String rules(int n) {
        return "toll 1;".repeat(n);
    }

    static void promise10_twelveRules() {
        Check.due("12 tolls", toll(rules(12)), 12);
        Check.due("with blanks behind", toll(rules(12) + " \n"), 12);
    }

    static void promise10_thirteenRules() {
        fault(rules(13), 2, 84);
        fault(rules(12) + "  bar 1;", 2, 86);
        fault(rules(12) + "bar", 2, 84);
        fault(rules(14), 2, 84);
    }

    static void promise10_thirteenthThatCannotStand() {
        fault(rules(12) + "1", 1, 84);
        fault(rules(12) + "mark", 1, 84);
        fault(rules(12) + ";", 1, 84);
        fault(rules(12) + "$", 1, 84);
    }

    static void promise10_faultInTheTwelfthRule() {
        fault(rules(11) + "toll x;" + rules(1), 3, 82);
    }

    // ---- promise 10: brackets

    private static String within(int brackets, String expr) {
        return "toll " + "(".repeat(brackets) + expr + ")".repeat(brackets) + ";";
    }

    static void promise10_exprWithinSeven() {
        fine(within(7, "1"));
        Check.due("its value", toll(within(7, "42")), 42);
        fine("bar (((((((1))))))) and not (((((((1))))))) < (((((((1)))))));");
    }

    static void promise10_exprWithinEight() {
        fault(within(8, "1"), 2, 13);
        fault(within(8, "  mark"), 2, 15);
        fault(within(8, "not 1"), 2, 13);
        fault(within(9, "1"), 2, 13);
        fault(within(30, "1"), 2, 13);
        fault("bar (((((((1))))))) + ((((((((1))))))));", 2, 30);
    }

    static void promise10_exprWithinEightThatCannotStand() {
        fault(within(8, ""), 1, 13);
        fault(within(8, "+"), 1, 13);
        fault(within(8, "$"), 1, 13);
        fault("bar ((((((((", 1, 12);
        fault(within(8, "x"), 3, 13);
    }

    static void promise10_bracketsLeftOpen() {
        fault("bar (1;", 1, 6);
        fault("bar ((1);", 1, 8);
        fault("bar (1", 1, 6);
        fault("bar (", 1, 5);
    }

    static void promise10_bracketsTooMany() {
        fault("bar 1);", 1, 5);
        fault("bar (1));", 1, 7);
        fault("bar );", 1, 4);
        fault("bar ();", 1, 5);
    }

    // ---- promise 10: what cannot stand, or is missing

    static void promise10_endsTooSoon() {
        fault("b", 1, 0);
        fault("bar", 1, 3);
        fault("bar ", 1, 4);
        fault("bar not", 1, 7);
        fault("bar 1", 1, 5);
        fault("bar 1 \n ", 1, 8);
        fault("bar 1 +", 1, 7);
        fault("bar 1 *", 1, 7);
        fault("bar 1 <", 1, 7);
        fault("bar 1 and", 1, 9);
        fault("bar 1; toll", 1, 11);
    }

    static void promise10_firstFaultAlongTheText() {
        fault("bar x + 1234567 + $;", 3, 4);
        fault("bar 1234567 + x + $;", 2, 4);
        fault("bar $ + x + 1234567;", 1, 4);
        fault("bar 1; foo; bar x;", 1, 7);
    }

    static void promise10_oneComparisonATest() {
        fine("bar 1 < 2;");
        fault("bar 1 < 2 < 3;", 1, 10);
        fault("bar 1 = 2 = 3;", 1, 10);
        fine("bar (1 < 2) = 3;");
        fine("bar 1 < 2 or 2 = 3;");
    }

    static void promise10_oneNotATest() {
        fine("bar not 1;");
        fault("bar not not 1;", 3, 8);
        fine("bar not (not 1);");
        fault("bar 1 < not 1;", 3, 8);
        fault("bar 1 + not 1;", 3, 8);
        fine("bar 1 and not 1;");
    }

    static void promise10_noSignAheadOfANumber() {
        fault("bar -1;", 1, 4);
        fault("bar +1;", 1, 4);
        fault("bar 1 - -1;", 1, 8);
    }

    static void promise10_ruleWithoutExpr() {
        fault("bar;", 1, 3);
        fault("toll ;", 1, 5);
        fault(";", 1, 0);
        fault("bar 1;;", 1, 6);
    }

    static void promise10_wordWhereANameCanStand() {
        fault("bar bar;", 3, 4);
        fault("bar toll;", 3, 4);
        fault("bar and 1;", 3, 4);
        fault("bar 1 + or;", 3, 8);
        fault("bar (foo;", 3, 5);
    }

    static void promise10_wordWhereNoNameCanStand() {
        fault("foo", 1, 0);
        fault("mark;", 1, 0);
        fault("bar 1 foo;", 1, 6);
        fault("bar 1 mark;", 1, 6);
        fault("bar (1 not;", 1, 7);
    }

    // ---- promise 10: what a text means

    /** What a log of mark 3, size 4, stump 77 pays by a text in the hour 0. */
    private static long toll(String text) {
        LogRiver x = Boundaries.catching(1);
        Check.due("law of " + text, Check.tell(x, text, 0), 0);
        x.let(x.cut(3, 4, 77), 0, 0);
        x.hours(1);
        return x.paid(3);
    }

    private static void value(String expr, long want) {
        Check.due(expr, toll("toll " + expr + ";"), want);
    }

    static void promise10_divisionByZero() {
        value("5 / 0", 0);
        value("0 / 0", 0);
        value("(0 - 5) / 0", 0);
        value("7 + 5 / 0", 7);
        value("5 / 0 / 0", 0);
        value("5 / (mark - 3)", 0);
    }

    static void promise10_divisionTowardsZero() {
        value("7 / 2", 3);
        value("(0 - 7) / 2", -3);
        value("7 / (0 - 2)", -3);
        value("(0 - 7) / (0 - 2)", 3);
        value("1 / 2", 0);
        value("(0 - 1) / 2", 0);
        value("999999 / 999999", 1);
    }

    static void promise10_wrapsUpwards() {
        value("65536 * 32767 + 65535", 2147483647L);
        value("65536 * 32767 + 65535 + 1", -2147483648L);
        value("65536 * 32768", -2147483648L);
        value("65536 * 65536", 0);
        value("999999 * 999999", (int) (999999L * 999999L));
    }

    static void promise10_wrapsDownwards() {
        value("0 - 65536 * 32768", -2147483648L);
        value("0 - 65536 * 32767 - 65535 - 1", -2147483648L);
        value("0 - 65536 * 32767 - 65535 - 2", 2147483647L);
    }

    static void promise10_wrapsInADivision() {
        value("65536 * 32768 / (0 - 1)", -2147483648L);
    }

    static void promise10_wrappedComparison() {
        value("65536 * 32767 + 65535 + 1 < 0", 1);
        value("65536 * 65536 = 0", 1);
    }

    static void promise10_comparisonOfLikeNumbers() {
        value("4 < 4", 0);
        value("3 < 4", 1);
        value("5 < 4", 0);
        value("4 = 4", 1);
        value("4 = 5", 0);
        value("0 - 1 < 0", 1);
    }

    static void promise10_andOrNotOfNumbers() {
        value("2 and 4", 1);
        value("2 and 0", 0);
        value("0 and 2", 0);
        value("0 or 2", 1);
        value("0 or 0", 0);
        value("0 - 2 and 0 - 4", 1);
        value("not 0", 1);
        value("not 2", 0);
        value("not (0 - 1)", 0);
        value("not 5 < 4", 1);
        value("not 0 = 0", 0);
        value("not 1 and 0", 0);
        value("not 1 or 1", 1);
    }

    static void promise10_andOrOfOneStrength() {
        value("1 or 0 and 0", 0);
        value("0 and 0 or 1", 1);
        value("1 or (0 and 0)", 1);
    }

    static void promise10_fromTheLeft() {
        value("20 - 5 - 4", 11);
        value("20 - 5 + 4", 19);
        value("100 / 10 / 5", 2);
        value("100 / 10 * 5", 50);
        value("7 / 2 * 2", 6);
        value("2 + 3 * 4", 14);
    }

    static void promise10_hourIsMod24() {
        LogRiver x = Boundaries.catching(9);
        Check.tell(x, "toll hour + 100 * day;", 0);
        Check.due("HOUR 0", paidIn(x, 0), 0);
        Check.due("HOUR 23", paidIn(x, 23), 23);
        Check.due("HOUR 24", paidIn(x, 24), 100);
        Check.due("HOUR 47", paidIn(x, 47), 123);
        Check.due("HOUR 48", paidIn(x, 48), 200);
        Check.due("HOUR 19999", paidIn(x, 19999), 83307);
    }

    static void promise10_namesAtTheirBounds() {
        LogRiver x = Boundaries.catching(9);
        Check.tell(x, "toll stump; toll 0 - size; toll reach * 7; toll age * 7;", 0);
        x.let(x.cut(0, 1, 0), 0, 0);
        x.let(x.cut(15, 9, 1000000), 0, 0);
        x.hours(1);
        Check.due("the smallest", x.paid(0), -1);
        Check.due("the largest", x.paid(15), 999991);
    }

    static void promise10_ageJustAheadOfSinking() {
        LogRiver x = Boundaries.oneReach(1, 1);
        x.boom(0, -1, 1);
        Check.tell(x, "toll age;", 0);
        x.let(x.cut(0, 1, 0), 0, 0);
        x.hours(23);
        x.melt(0, 100);
        x.hours(1);
        Check.due("23 hours AFLOAT so far", x.paid(0), 23);
        Check.due("in the HEAP it grows no older", x.log(0, 6), 23);
    }

    static void promise10_barAndTollApart() {
        Check.due("a 'bar' of 0 takes no toll", toll("bar 0; toll 5;"), 5);
        Check.due("no 'toll' at all", toll("bar 0;"), 0);
        Check.due("a sum of some", toll("toll 5; toll 0 - 9; toll 1;"), -3);
        LogRiver x = Boundaries.catching(1);
        Check.tell(x, "toll 1;", 0);
        Check.due("a 'toll' bars none", Boundaries.letGo(x, 1, 0, 1, 0, 0), 1);
    }

    static void promise10_barOfAnyNumberButZero() {
        for (String expr : new String[] {"1", "0 - 1", "2", "65536 * 32768", "0; bar 1; bar 0", "0; bar 0; bar 7"}) {
            LogRiver x = Boundaries.catching(1);
            Check.tell(x, "bar " + expr + ";", 0);
            Check.due("BARRED by " + expr, Boundaries.letGo(x, 1, 0, 1, 0, 0), 0);
        }
        for (String expr : new String[] {"0", "65536 * 65536", "5 / 0", "0; bar 0; toll 1"}) {
            LogRiver x = Boundaries.catching(1);
            Check.tell(x, "bar " + expr + ";", 0);
            Check.due("not BARRED by " + expr, Boundaries.letGo(x, 1, 0, 1, 0, 0), 1);
        }
    }

    static void promise10_mostThatWaitsInBrackets() {
        String expr = "9 and 3 = 1 + 2 * 1";
        for (int k = 0; k < 7; k++) {
            expr = "9 and 3 = 1 + 2 * (" + expr + ")";
        }
        value(expr, 1);
    }

    // ---- promise 11: fault

    static void promise11_noneAtFirst() {
        Check.due("fault()", new LogRiver().fault(), -1);
    }

    static void promise11_firstByte() {
        fault("x", 1, 0);
    }

    static void promise11_lastByteAndBehindIt() {
        fault("bar 1x", 1, 5);
        fault("bar 1", 1, 5);
        fault("bar 1  ", 1, 7);
    }

    static void promise11_behindAFullTape() {
        String text = "bar 1" + " ".repeat(495);
        fault(text, 1, 500);
    }

    static void promise11_noneBehindALaw() {
        LogRiver x = new LogRiver();
        Check.tell(x, "bar x;", 0);
        Check.due("with a FAULT", x.fault(), 4);
        x.law(0, 0);
        Check.due("without", x.fault(), -1);
    }

    static void promise11_latestOfSome() {
        LogRiver x = new LogRiver();
        Check.tell(x, "bar x;", 0);
        Check.tell(x, "bar 1 + x;", 0);
        Check.due("the latest", x.fault(), 8);
        Check.tell(x, "x", 0);
        Check.due("the latest", x.fault(), 0);
    }

    static void promise11_askedTwice() {
        LogRiver x = new LogRiver();
        Check.tell(x, "bar x;", 0);
        Check.due("once", x.fault(), 4);
        Check.due("twice", x.fault(), 4);
        x.feed(1, 2, 3, 4, 5);
        x.hours(1);
        Check.due("behind other calls", x.fault(), 4);
    }

    static void promise11_staysBehindABadArgument() {
        LogRiver x = new LogRiver();
        Check.tell(x, "bar x;", 0);
        Check.badArgument("law(1, 0)", () -> x.law(1, 0));
        Check.badArgument("law(0, 1001)", () -> x.law(0, 1001));
        Check.due("fault()", x.fault(), 4);
    }

    static void promise11_noneBehindTheSeventhLaw() {
        LogRiver x = new LogRiver();
        tellSixLaws(x);
        Check.tell(x, "bar x;", 0);
        Check.due("fault()", x.fault(), -1);
    }
}
