import java.lang.reflect.InvocationTargetException;
import java.lang.reflect.Method;
import java.lang.reflect.Modifier;
import java.util.ArrayList;
import java.util.List;
import java.util.Map;
import java.util.TreeMap;

/** What the boundary tests share: each is a static method whose name is promiseNN_ and the boundary that it tries. */
final class Boundaries {
    interface Act {
        void on(LogRiver x);
    }

    interface Ask {
        long of(LogRiver x);
    }

    static final int LEAST = Integer.MIN_VALUE;
    static final int GREATEST = Integer.MAX_VALUE;
    private static final int[] HOURS_TO_LOOK_AFTER = {0, 1, 3};

    private Boundaries() {
    }

    static void run(Class<?> tests) {
        for (Method test : testsOf(tests)) {
            Check.begin(test.getName());
            Check.due("ends with", endOf(test), "nothing thrown");
        }
        Check.finish();
    }

    static List<Method> testsOf(Class<?> tests) {
        Map<String, Method> byName = new TreeMap<>();
        for (Method method : tests.getDeclaredMethods()) {
            if (method.getName().startsWith("promise") && Modifier.isStatic(method.getModifiers())) {
                byName.put(method.getName(), method);
            }
        }
        return new ArrayList<>(byName.values());
    }

    private static String endOf(Method test) {
        try {
            test.invoke(null);
            return "nothing thrown";
        } catch (InvocationTargetException e) {
            return e.getCause().toString();
        } catch (IllegalAccessException e) {
            return e.toString();
        }
    }

    // ---- calls that are refused

    /** On a busy river the call answers this, and nothing is otherwise than without it, now or in the hours to come. */
    static void refused(String what, Ask call, long want) {
        refused(what, Boundaries::makeBusy, call, Long.toString(want));
    }

    static void refusedByNoElement(String what, Ask call) {
        refused(what, Boundaries::makeBusy, call, "throws.NoSuchElementException");
    }

    static void refusedByBadArgument(String what, Ask call) {
        refused(what, Boundaries::makeBusy, call, "throws.IllegalArgumentException");
    }

    static void refused(String what, Act setup, Ask call, String want) {
        LogRiver asked = new LogRiver();
        LogRiver left = new LogRiver();
        setup.on(asked);
        setup.on(left);
        Check.due(what, Check.answer(() -> call.of(asked)), want);
        for (int hours : HOURS_TO_LOOK_AFTER) {
            asked.hours(hours);
            left.hours(hours);
            Check.due("what is seen " + hours + " hours behind " + what, seen(asked), seen(left));
        }
    }

    /** Two reaches with a dam, booms, a watch, a crew, a jam, laws, half a tape, orders, and logs in all places. */
    static void makeBusy(LogRiver x) {
        x.reach(-1, 2, 2, 60);
        x.reach(0, 2, 1, 150);
        x.boom(0, 2, 2);
        x.boom(1, 8, 1);
        x.melt(0, 100);
        Check.tell(x, "toll 5 + size; bar mark = 7;", 0);
        x.order(0, 1, 2, 3);
        x.order(1, 3, 1, 1);
        cutAndLet(x, 1, 2, 0, 1);
        cutAndLet(x, 0, 1, 0, 1);
        cutAndLet(x, 4, 1, 1, 0);
        x.hours(23);
        cutAndLet(x, 1, 1, 0, 1);
        x.hours(1);
        cutAndLet(x, 5, 9, 1, 1);
        x.dam(1, 300);
        x.gate(1, 70);
        x.melt(1, 110);
        x.watch(1, true);
        x.crew(-1, 1);
        x.cut(7, 3, 99);
        Check.tell(x, "bar x;", 0);
        Check.feed(x, "bar 1;");
    }

    private static void cutAndLet(LogRiver x, int mark, int size, int reach, int cell) {
        x.let(x.cut(mark, size, 1000 + mark), reach, cell);
    }

    /** All that a river answers when it is asked, in some hundred calls: an object has 512 in all. */
    static String seen(LogRiver x) {
        StringBuilder seen = new StringBuilder();
        for (int what = 0; what < 10; what++) {
            add(seen, " count ", x.count(what));
        }
        for (int log = 0, logs = x.count(2); log < logs; log++) {
            for (int what = 3; what < 8; what++) {
                add(seen, " log ", x.log(log, what));
            }
        }
        for (int r = 0, reaches = x.count(1); r < reaches; r++) {
            addReach(seen, x, r);
        }
        for (int mark = 0; mark < 16; mark++) {
            add(seen, " paid ", x.paid(mark));
        }
        for (int order = 0, orders = x.count(8); order < orders; order++) {
            add(seen, " wants ", x.wants(order));
        }
        add(seen, " fault ", x.fault());
        add(seen, " waters ", x.waters(0));
        add(seen, " waters ", x.waters(1));
        return seen.toString();
    }

    private static void addReach(StringBuilder seen, LogRiver x, int r) {
        for (int what = 0; what < 5; what++) {
            add(seen, " water ", x.water(r, what));
        }
        for (int i = -1, logs = x.heap(r, -1); i < logs; i++) {
            add(seen, " heap ", x.heap(r, i));
        }
        for (int c = 0, cells = x.water(r, 4); c < cells; c++) {
            add(seen, " jammed ", x.cell(r, c, 1));
            add(seen, " known ", x.cell(r, c, 2));
            for (int i = 0, logs = x.cell(r, c, 0); i < logs; i++) {
                add(seen, " in ", x.inCell(r, c, i));
            }
        }
    }

    private static void add(StringBuilder seen, String what, long v) {
        seen.append(what).append(v);
    }

    // ---- small rivers

    /** One reach to the sea, so many cells of so many logs; it never jams. */
    static LogRiver oneReach(int length, int carry) {
        LogRiver x = new LogRiver();
        x.reach(-1, length, carry, 0);
        return x;
    }

    /** One cell from which every log goes into a heap in its first hour. */
    static LogRiver catching(int room) {
        LogRiver x = oneReach(1, 20);
        x.melt(0, 100);
        x.boom(0, -1, room);
        return x;
    }

    /** Lets so many new logs go into a cell: how many were taken. */
    static int letGo(LogRiver x, int logs, int mark, int size, int reach, int cell) {
        int taken = 0;
        for (int k = 0; k < logs; k++) {
            taken += x.let(x.cut(mark, size, k), reach, cell) == 0 ? 1 : 0;
        }
        return taken;
    }

    /** Lets hours go by, any number of them. */
    static void pass(LogRiver x, int hours) {
        for (int left = hours; left > 0; left -= 200) {
            x.hours(Math.min(left, 200));
        }
    }
}
