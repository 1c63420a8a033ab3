import java.lang.management.ManagementFactory;

/**
 * What a run of 512 calls makes stays small: all calls of a run live in one room of some 600,000 objects and 7.3 million
 * fields and elements. An object has at least 16 bytes, and a field or element of this program at least one.
 */
public final class RoomTest {
    private static final int CALLS = 512;
    private static final long MOST_BYTES = 600000;

    private int calls;

    public static void main(String[] args) {
        String[] runs = {"logs", "orders and boards", "laws", "law texts with faults", "refused calls", "hours"};
        for (int kind = 0; kind < runs.length; kind++) {
            new RoomTest().run(kind);
            long before = bytesMade();
            int calls = new RoomTest().run(kind);
            long made = bytesMade() - before;
            Check.due(runs[kind] + ": calls", calls <= CALLS, true);
            Check.due(runs[kind] + ": " + made + " bytes made are not too many", made < MOST_BYTES, true);
        }
        Check.finish();
    }

    private static long bytesMade() {
        var threads = (com.sun.management.ThreadMXBean) ManagementFactory.getThreadMXBean();
        return threads.getThreadAllocatedBytes(Thread.currentThread().getId());
    }

    private int run(int kind) {
        LogRiver x = new LogRiver();
        switch (kind) {
            case 0: logs(x); break;
            case 1: ordersAndBoards(x); break;
            case 2: laws(x); break;
            case 3: faults(x); break;
            case 4: refusals(x); break;
            default: hours(x); break;
        }
        return calls;
    }

    private boolean hasLeft(int n) {
        boolean has = calls + n <= CALLS;
        calls += has ? n : 0;
        return has;
    }

    private void reaches(LogRiver x) {
        for (int r = 0; r < 10 && hasLeft(4); r++) {
            x.reach(r - 1, 12, 20, 200);
            x.melt(r, 500);
            x.boom(r, 1 << r, 100);
            x.watch(r, true);
        }
    }

    private void logs(LogRiver x) {
        reaches(x);
        for (int k = 0; hasLeft(3); k++) {
            x.let(x.cut(k % 16, 1 + k % 9, k), k % 10, k % 12);
            x.hours(k % 3);
        }
    }

    private void ordersAndBoards(LogRiver x) {
        reaches(x);
        for (int order = 0; order < 60 && hasLeft(1); order++) {
            x.order(order % 10, order % 10, 1, 100);
        }
        for (int k = 0; hasLeft(4); k++) {
            x.let(x.cut(k % 10, 9, k), k % 10, 11);
            x.hours(1);
            Check.answer(() -> x.board(0));
        }
    }

    private void tell(LogRiver x, String text) {
        for (int k = 0; k < 25 && hasLeft(1); k++) {
            x.feed(Check.four(text, 20 * k), Check.four(text, 20 * k + 4), Check.four(text, 20 * k + 8),
                Check.four(text, 20 * k + 12), Check.four(text, 20 * k + 16));
        }
        if (hasLeft(2)) {
            x.law(x.count(9), 0);
        }
    }

    private void laws(LogRiver x) {
        reaches(x);
        String text = "toll " + "1+".repeat(247) + "1;";
        for (int law = 0; law < 6; law++) {
            tell(x, text);
        }
        while (hasLeft(3)) {
            x.let(x.cut(0, 1, 0), 0, 11);
            x.hours(2);
        }
    }

    private void faults(LogRiver x) {
        String text = "toll " + "1+".repeat(247) + "x;";
        while (calls < CALLS) {
            tell(x, text);
        }
    }

    private void refusals(LogRiver x) {
        while (hasLeft(4)) {
            Check.answer(() -> x.board(0));
            Check.answer(() -> x.let(0, 0, 0));
            Check.answer(() -> x.hours(201));
            Check.answer(() -> x.law(1, 0));
        }
    }

    private void hours(LogRiver x) {
        reaches(x);
        for (int k = 0; k < 150 && hasLeft(2); k++) {
            x.let(x.cut(k % 16, 9, k), k % 10, k % 12);
        }
        for (int k = 0; k < 100 && hasLeft(1); k++) {
            x.hours(200);
        }
    }
}
