import java.util.Random;

/** Long runs of calls by chance, the same each time, whose answers are compared with those of RiverModel. */
public final class RandomRunsTest {
    private static final int RUNS = 300;
    private static final int CALLS = 500;

    private final Random random;
    private final LogRiver x = new LogRiver();
    private final RiverModel y = new RiverModel();
    private final StringBuilder told = new StringBuilder();

    private RandomRunsTest(int seed) {
        random = new Random(seed);
    }

    public static void main(String[] args) {
        int runs = args.length > 0 ? Integer.parseInt(args[0]) : RUNS;
        for (int run = 0; run < runs; run++) {
            new RandomRunsTest(run).run(run);
        }
        for (int run = 0; run < 100 * runs; run++) {
            new RandomRunsTest(run).oneLaw(run);
        }
        Check.finish();
    }

    private void run(int run) {
        int reaches = 1 + random.nextInt(4);
        for (int r = 0; r < reaches; r++) {
            both("reach", random.nextInt(r + 1) - (r == 0 ? 1 : 0), 1 + random.nextInt(4), 1 + random.nextInt(3), pick(0, 60, 150, 400));
            both("melt", r, pick(0, 50, 120, 300, 500), 0, 0);
        }
        for (int call = 0; call < CALLS; call++) {
            anyCall();
            if (call % 50 == 49) {
                askAll("run " + run + " call " + call);
            }
        }
    }

    private void oneLaw(int run) {
        String text = mangled(text());
        law(text, 0);
        Check.due("run " + run + " fault of " + text, x.fault(), y.fault());
        both("reach", -1, 1, 20, 0);
        both("melt", 0, 100, 0, 0);
        both("boom", 0, -1, 100, 0);
        for (int log = 0; log < 3; log++) {
            both("cut", random.nextInt(16), 1 + random.nextInt(9), random.nextInt(1000001), 0);
            both("let", log, 0, 0, 0);
            both("hours", random.nextInt(40), 0, 0, 0);
        }
        for (int mark = 0; mark < 16; mark++) {
            Check.due("run " + run + " paid by " + text, x.paid(mark), y.paid(mark));
        }
    }

    private int pick(int... some) {
        return some[random.nextInt(some.length)];
    }

    /** A number that is mostly as told, now and then not, and sometimes far from it. */
    private int about(int least, int most) {
        int chance = random.nextInt(60);
        if (chance == 0) {
            return least - 1;
        }
        if (chance == 1) {
            return most + 1;
        }
        if (chance == 2) {
            return pick(Integer.MIN_VALUE, Integer.MAX_VALUE, random.nextInt());
        }
        return least + random.nextInt(Math.max(most - least + 1, 1));
    }

    private int aReach() {
        return about(0, y.count(1) - 1);
    }

    private void anyCall() {
        switch (random.nextInt(22)) {
            case 0: both("dam", aReach(), pick(0, 200, 1000, about(0, 100000)), 0, 0); break;
            case 1: both("gate", aReach(), pick(0, 49, 50, 300, about(0, 1000)), 0, 0); break;
            case 2: both("melt", aReach(), pick(0, 30, 100, 250, about(0, 500)), 0, 0); break;
            case 3: both("boom", aReach(), random.nextInt(), pick(3, about(1, 100)), 0); break;
            case 4: both("watch", aReach(), random.nextInt(2), 0, 0); break;
            case 5: both("crew", random.nextInt(3) == 0 ? -1 : about(0, y.count(5) - 1), aReach(), 0, 0); break;
            case 6: law(random.nextInt(3) == 0 ? mangled(text()) : text(), pick(0, about(0, 12), about(0, 1000))); break;
            case 7: case 8: case 9: case 10: cutAndLet(); break;
            case 11: both("let", about(0, y.count(2) - 1), aReach(), about(0, 3), 0); break;
            case 12: case 13: case 14: case 15: both("hours", random.nextInt(3), 0, 0, 0); break;
            case 16: both("hours", about(0, pick(3, 30)), 0, 0, 0); break;
            case 17: both("order", aReach(), about(0, 3), pick(1, 1, about(1, 9)), pick(1, 3, about(1, 100))); break;
            case 18: both("reach", about(-1, y.count(1) - 1), pick(3, about(1, 12)), pick(2, about(1, 20)), pick(60, about(0, 1000))); break;
            default: anyQuestion(); break;
        }
    }

    private void cutAndLet() {
        both("cut", pick(about(0, 3), about(0, 15)), pick(1, 2, about(1, 9)), about(0, 1000000), 0);
        both("let", y.count(2) - 1, aReach(), random.nextInt(3), 0);
    }

    private void anyQuestion() {
        switch (random.nextInt(9)) {
            case 0: both("wants", about(0, y.count(8) - 1), 0, 0, 0); break;
            case 1: both("log", about(0, y.count(2) - 1), about(0, 7), 0, 0); break;
            case 2: both("cell", aReach(), about(0, 3), about(0, 2), 0); break;
            case 3: both("inCell", aReach(), about(0, 3), about(0, 3), 0); break;
            case 4: both("heap", aReach(), about(-1, 5), 0, 0); break;
            case 5: both("water", aReach(), about(0, 4), 0, 0); break;
            case 6: both("waters", about(0, 1), 0, 0, 0); break;
            case 7: both("board", about(0, y.count(4) - 1), 0, 0, 0); break;
            default: both(pick(0, 1) == 0 ? "paid" : "count", about(0, 15), 0, 0, 0); break;
        }
    }

    private void law(String text, int day) {
        for (int i = 0; i < text.length(); i += 20) {
            int[] f = new int[5];
            for (int k = 0; k < 5; k++) {
                f[k] = Check.four(text, i + 4 * k);
            }
            Check.due("feed", x.feed(f[0], f[1], f[2], f[3], f[4]), y.feed(f));
        }
        both("law", random.nextInt(40) == 0 ? about(0, y.count(9)) : Math.min(text.length(), 500), day, 0, 0);
        both("fault", 0, 0, 0, 0);
    }

    private void both(String call, int a, int b, int c, int d) {
        told.append(' ').append(call).append('(').append(a).append(", ").append(b).append(", ").append(c).append(", ").append(d).append(")");
        String got = Check.answer(() -> program(call, a, b, c, d));
        String want = Check.answer(() -> model(call, a, b, c, d));
        if (!got.equals(want)) {
            System.out.println(told);
        }
        Check.due(call + "(" + a + ", " + b + ", " + c + ", " + d + ")", got, want);
    }

    private long program(String call, int a, int b, int c, int d) {
        switch (call) {
            case "reach": return x.reach(a, b, c, d);
            case "dam": return x.dam(a, b) ? 1 : 0;
            case "gate": return x.gate(a, b);
            case "melt": return x.melt(a, b);
            case "boom": return x.boom(a, b, c) ? 1 : 0;
            case "watch": return x.watch(a, b != 0) ? 1 : 0;
            case "crew": return x.crew(a, b);
            case "law": return x.law(a, b);
            case "fault": return x.fault();
            case "cut": return x.cut(a, b, c);
            case "let": return x.let(a, b, c);
            case "hours": return x.hours(a);
            case "order": return x.order(a, b, c, d);
            case "wants": return x.wants(a);
            case "log": return x.log(a, b);
            case "cell": return x.cell(a, b, c);
            case "inCell": return x.inCell(a, b, c);
            case "heap": return x.heap(a, b);
            case "water": return x.water(a, b);
            case "waters": return x.waters(a);
            case "board": return x.board(a);
            case "paid": return x.paid(a);
            default: return x.count(a);
        }
    }

    private long model(String call, int a, int b, int c, int d) {
        switch (call) {
            case "reach": return y.reach(a, b, c, d);
            case "dam": return y.dam(a, b);
            case "gate": return y.gate(a, b);
            case "melt": return y.melt(a, b);
            case "boom": return y.boom(a, b, c);
            case "watch": return y.watch(a, b != 0);
            case "crew": return y.crew(a, b);
            case "law": return y.law(a, b);
            case "fault": return y.fault();
            case "cut": return y.cut(a, b, c);
            case "let": return y.let(a, b, c);
            case "hours": return y.hours(a);
            case "order": return y.order(a, b, c, d);
            case "wants": return y.wants(a);
            case "log": return y.log(a, b);
            case "cell": return y.cell(a, b, c);
            case "inCell": return y.inCell(a, b, c);
            case "heap": return y.heap(a, b);
            case "water": return y.water(a, b);
            case "waters": return y.waters(a);
            case "board": return y.board(a);
            case "paid": return y.paid(a);
            default: return y.count(a);
        }
    }

    private void askAll(String when) {
        for (int what = 0; what < 10; what++) {
            Check.due(when + ": count(" + what + ")", x.count(what), y.count(what));
        }
        for (int log = 0; log < y.count(2); log++) {
            for (int what = 0; what < 8; what++) {
                Check.due(when + ": log(" + log + ", " + what + ")", x.log(log, what), y.log(log, what));
            }
        }
        for (int r = 0; r < y.count(1); r++) {
            for (int what = 0; what < 5; what++) {
                Check.due(when + ": water(" + r + ", " + what + ")", x.water(r, what), y.water(r, what));
            }
            for (int i = -1; i <= Math.max(y.heap(r, -1), 0); i++) {
                Check.due(when + ": heap(" + r + ", " + i + ")", x.heap(r, i), y.heap(r, i));
            }
            for (int c = 0; c < y.water(r, 4); c++) {
                for (int i = 0; i < 3; i++) {
                    Check.due(when + ": cell(" + r + ", " + c + ", " + i + ")", x.cell(r, c, i), y.cell(r, c, i));
                }
                for (int i = 0; i <= y.cell(r, c, 0); i++) {
                    Check.due(when + ": inCell(" + r + ", " + c + ", " + i + ")", x.inCell(r, c, i), y.inCell(r, c, i));
                }
            }
        }
        for (int mark = 0; mark < 16; mark++) {
            Check.due(when + ": paid(" + mark + ")", x.paid(mark), y.paid(mark));
        }
        for (int order = 0; order < y.count(8); order++) {
            Check.due(when + ": wants(" + order + ")", x.wants(order), y.wants(order));
        }
        for (int board = 0; board < y.count(4); board++) {
            Check.due(when + ": board(" + board + ")", x.board(board), y.board(board));
        }
        Check.due(when + ": waters(0)", x.waters(0), y.waters(0));
        Check.due(when + ": waters(1)", x.waters(1), y.waters(1));
        storedWater(when);
    }

    // What came by MELT is in a STORE or went to SEA.
    private void storedWater(String when) {
        long stored = 0;
        for (int r = 0; r < x.count(1); r++) {
            stored += Math.max(x.water(r, 2), 0);
        }
        Check.due(when + ": no water is lost", x.waters(1) + stored, x.waters(0));
    }

    private String text() {
        StringBuilder text = new StringBuilder();
        int rules = random.nextInt(40) == 0 ? 11 + random.nextInt(4) : random.nextInt(4);
        for (int rule = 0; rule < rules; rule++) {
            text.append(random.nextInt(4) == 0 ? "bar " : "toll ").append(rules > 9 ? "1" : ruleExpr()).append(blanks()).append(';').append(blanks());
        }
        return text.toString();
    }

    private String ruleExpr() {
        return random.nextInt(8) == 0 ? deepExpr(6 + random.nextInt(4)) : expr(random.nextInt(4));
    }

    /** An EXPR in so many brackets, with little beside them. */
    private String deepExpr(int brackets) {
        String text = expr(0);
        for (int k = 0; k < brackets; k++) {
            String beside = random.nextInt(3) == 0 ? new String[] {"1 +", "not ", "size *", "2 and ", "3<"}[random.nextInt(5)] : "";
            text = beside + "(" + blanks() + text + ")";
        }
        return text;
    }

    private String blanks() {
        return new String[] {"", "", " ", "  ", "\n"}[random.nextInt(5)];
    }

    private String expr(int deeper) {
        String text = test(deeper);
        while (random.nextInt(4) == 0) {
            text += (random.nextBoolean() ? " and " : " or ") + test(deeper);
        }
        return text;
    }

    private String test(int deeper) {
        String text = (random.nextInt(6) == 0 ? "not " : "") + sum(deeper);
        return random.nextInt(3) == 0 ? text + blanks() + (random.nextBoolean() ? "<" : "=") + blanks() + sum(deeper) : text;
    }

    private String sum(int deeper) {
        String text = term(deeper);
        while (random.nextInt(4) == 0) {
            text += blanks() + (random.nextBoolean() ? "+" : "-") + blanks() + term(deeper);
        }
        return text;
    }

    private String term(int deeper) {
        String text = part(deeper);
        while (random.nextInt(4) == 0) {
            text += blanks() + (random.nextBoolean() ? "*" : "/") + blanks() + part(deeper);
        }
        return text;
    }

    private String part(int deeper) {
        if (deeper > 0 && random.nextInt(2) == 0) {
            return "(" + blanks() + expr(deeper - 1) + blanks() + ")";
        }
        if (random.nextInt(2) == 0) {
            return new String[] {"mark", "size", "stump", "hour", "day", "reach", "age"}[random.nextInt(7)];
        }
        return Integer.toString(random.nextInt(pick(2, 10, 1000, 1000000)));
    }

    /** The text with a piece of it gone, or another one in its place; often none. */
    private String mangled(String text) {
        String mangled = text;
        while (random.nextInt(2) == 0) {
            int at = random.nextInt(mangled.length() + 1);
            int end = Math.min(mangled.length(), at + random.nextInt(3));
            String piece = new String[] {"", "", "(", ")", ";", "and", " or ", "not ", "<", "=", "+", "*", "1234567", "x", "bar ",
                "toll", "\t", "\u00ff", "0", "size"}[random.nextInt(20)];
            mangled = mangled.substring(0, at) + piece + mangled.substring(end);
        }
        return mangled.length() > 500 ? mangled.substring(0, 500) : mangled;
    }
}
