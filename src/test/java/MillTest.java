/** Promises 15, 16, 20, 23, 24 and 25: orders, heaps, mills, boards, accounts and what is counted. */
public final class MillTest {
    public static void main(String[] args) {
        order();
        sixtyOrders();
        wants();
        heap();
        atMostThree();
        firstThatFits();
        ordersInTurn();
        severalBooms();
        board();
        paid();
        count();
        Check.finish();
    }

    /** A river of one cell whose boom catches all, with logs of these marks and sizes in its heap. */
    private static LogRiver heapOf(int[] marks, int[] sizes) {
        LogRiver x = new LogRiver();
        x.reach(-1, 1, 20, 0);
        x.boom(0, -1, 100);
        x.melt(0, 100);
        for (int k = 0; k < marks.length; k++) {
            x.let(x.cut(marks[k], sizes[k], 1000 + k), 0, 0);
        }
        x.hours(1);
        Check.due("the HEAP", x.heap(0, -1), marks.length);
        return x;
    }

    private static void order() {
        LogRiver x = new LogRiver();
        x.reach(-1, 1, 20, 0);
        Check.noElement("no such REACH", () -> x.order(1, 1, 1, 1));
        Check.noElement("no such REACH", () -> x.order(-1, 99, 1, 1));
        Check.due("no BOOM", x.order(0, 1, 1, 1), -1);
        x.boom(0, 0, 1);
        Check.due("mark -1", x.order(0, -1, 1, 1), -1);
        Check.due("mark 16", x.order(0, 16, 1, 1), -1);
        Check.due("size 0", x.order(0, 1, 0, 1), -1);
        Check.due("size 10", x.order(0, 1, 10, 1), -1);
        Check.due("n 0", x.order(0, 1, 1, 0), -1);
        Check.due("n 101", x.order(0, 1, 1, 101), -1);
        Check.due("none of these", x.count(8), 0);
        Check.due("least", x.order(0, 0, 1, 1), 0);
        Check.due("most", x.order(0, 15, 9, 100), 1);
        Check.due("wants(1)", x.wants(1), 100);
    }

    private static void sixtyOrders() {
        LogRiver x = new LogRiver();
        x.reach(-1, 1, 20, 0);
        x.reach(-1, 1, 20, 0);
        x.boom(0, 0, 1);
        x.boom(1, 0, 1);
        for (int k = 0; k < 60; k++) {
            Check.due("numbered over all", x.order(k % 2, 1, 1, 1 + k), k);
        }
        Check.due("the 61st", x.order(0, 1, 1, 1), -1);
        Check.due("count(8)", x.count(8), 60);
        Check.due("wants(59)", x.wants(59), 60);
    }

    private static void wants() {
        LogRiver x = heapOf(new int[] {1, 1}, new int[] {1, 1});
        Check.noElement("no such ORDER", () -> x.wants(0));
        x.order(0, 1, 1, 3);
        Check.due("at first", x.wants(0), 3);
        x.hours(1);
        Check.due("two less", x.wants(0), 1);
        Check.noElement("no such ORDER", () -> x.wants(1));
        Check.noElement("no such ORDER", () -> x.wants(-1));
    }

    private static void heap() {
        LogRiver x = heapOf(new int[] {3, 1, 2}, new int[] {1, 2, 3});
        x.reach(-1, 1, 1, 0);
        Check.due("0", x.heap(0, 0), 0);
        Check.due("2", x.heap(0, 2), 2);
        Check.due("3", x.heap(0, 3), -1);
        Check.due("-2", x.heap(0, -2), -1);
        Check.due("no BOOM", x.heap(1, 0), -1);
        Check.due("no BOOM: how many", x.heap(1, -1), -1);
        Check.noElement("no such REACH", () -> x.heap(2, 0));
        Check.noElement("no such REACH", () -> x.heap(-1, -1));
        x.order(0, 1, 1, 1);
        x.hours(1);
        Check.due("how many are left", x.heap(0, -1), 2);
        Check.due("the last moves up", x.heap(0, 1), 2);
    }

    private static void atMostThree() {
        LogRiver x = heapOf(new int[] {1, 1, 1, 1, 1}, new int[] {2, 2, 2, 2, 2});
        x.order(0, 1, 1, 2);
        x.order(0, 1, 1, 5);
        x.hours(1);
        Check.due("three of them", x.heap(0, -1), 2);
        Check.due("two for the first", x.wants(0), 0);
        Check.due("one for the second", x.wants(1), 4);
        Check.due("boards", x.count(4), 6);
        x.hours(1);
        Check.due("the rest", x.heap(0, -1), 0);
        Check.due("wants(1)", x.wants(1), 2);
        x.hours(1);
        Check.due("none is there", x.wants(1), 2);
        Check.due("boards", x.count(4), 10);
    }

    private static void firstThatFits() {
        LogRiver x = heapOf(new int[] {2, 1, 1, 1, 1}, new int[] {9, 2, 5, 4, 9});
        x.order(0, 1, 4, 2);
        x.hours(1);
        Check.due("another MARK", x.log(0, 3), 2);
        Check.due("too small", x.log(1, 3), 2);
        Check.due("the first", x.log(2, 7), 0);
        Check.due("of just its SIZE", x.log(3, 7), 5);
        Check.due("it wants no more", x.log(4, 3), 2);
        Check.due("no BOARD", x.log(4, 7), -1);
        Check.due("boards of the logs' SIZES", x.count(4), 9);
        Check.due("the HEAP", x.heap(0, 1), 1);
    }

    private static void ordersInTurn() {
        LogRiver x = heapOf(new int[] {1, 1, 2}, new int[] {9, 1, 1});
        x.order(0, 2, 5, 1);
        x.order(0, 1, 1, 1);
        x.order(0, 1, 1, 1);
        x.order(0, 2, 1, 1);
        x.hours(1);
        Check.due("one that nothing fits holds up none", x.wants(0), 1);
        Check.due("boards of the one that came first", x.log(0, 7), 0);
        Check.due("then", x.log(1, 7), 9);
        Check.due("then", x.log(2, 7), 10);
        Check.due("all three", x.wants(1) + x.wants(2) + x.wants(3), 0);
    }

    private static void severalBooms() {
        LogRiver x = new LogRiver();
        for (int r = 0; r < 2; r++) {
            x.reach(-1, 1, 20, 0);
            x.boom(r, -1, 100);
            x.melt(r, 100);
        }
        for (int log = 0; log < 8; log++) {
            x.cut(1, 2, log);
            x.let(log, log % 2, 0);
        }
        x.order(1, 1, 1, 100);
        x.order(0, 1, 1, 100);
        x.hours(1);
        Check.due("into the HEAP and sawn in one HOUR, three of each BOOM", x.count(4), 12);
        Check.due("BOOM by BOOM from REACH 0 on", x.log(0, 7), 0);
        Check.due("the third of REACH 0", x.log(4, 7), 4);
        Check.due("the first of REACH 1", x.log(1, 7), 6);
        Check.due("the fourth is left", x.log(6, 3), 2);
        Check.due("an ORDER is of its BOOM alone", x.wants(0), 97);
        Check.due("an ORDER is of its BOOM alone", x.wants(1), 97);
    }

    private static void board() {
        LogRiver x = heapOf(new int[] {1, 1, 2}, new int[] {3, 1, 9});
        Check.noElement("no such BOARD", () -> x.board(0));
        x.order(0, 2, 9, 1);
        x.hours(1);
        x.order(0, 1, 1, 2);
        x.hours(1);
        int[] from = {2, 2, 2, 2, 2, 2, 2, 2, 2, 0, 0, 0, 1};
        for (int b = 0; b < from.length; b++) {
            Check.due("board(" + b + ")", x.board(b), from[b]);
            Check.due("its STUMP", x.log(x.board(b), 2), 1000 + from[b]);
        }
        Check.noElement("no such BOARD", () -> x.board(13));
        Check.noElement("no such BOARD", () -> x.board(-1));
        Check.noElement("no such BOARD", () -> x.board(Integer.MAX_VALUE));
    }

    private static void paid() {
        LogRiver x = new LogRiver();
        x.reach(-1, 1, 20, 0);
        x.boom(0, 0xFFFE, 2);
        x.melt(0, 100);
        Check.tell(x, "toll 5 - mark;", 0);
        int[] marks = {0, 15, 2, 2};
        for (int k = 0; k < marks.length; k++) {
            x.cut(marks[k], 9, 0);
            x.let(k, 0, 0);
        }
        Check.due("not by let", x.paid(2), 0);
        x.hours(3);
        Check.due("at SEA it pays none", x.paid(0), 0);
        Check.due("an account may fall", x.paid(15), -10);
        Check.due("once for the one in the HEAP, none for the one that waits", x.paid(2), 3);
        x.boom(0, -1, 3);
        x.hours(1);
        Check.due("paid", x.paid(2), 6);
        Check.noElement("paid(16)", () -> x.paid(16));
        Check.noElement("paid(-1)", () -> x.paid(-1));
    }

    private static void count() {
        LogRiver x = new LogRiver();
        x.reach(-1, 3, 1, 50);
        x.reach(-1, 1, 1, 50);
        x.boom(1, -1, 5);
        for (int c = 0; c < 3; c++) {
            x.let(x.cut(0, 9, 0), 0, c);
        }
        x.let(x.cut(0, 7, 0), 1, 0);
        x.melt(1, 100);
        x.order(1, 0, 1, 1);
        x.order(1, 0, 1, 1);
        x.order(1, 0, 1, 1);
        x.order(1, 0, 1, 1);
        x.order(1, 0, 1, 1);
        x.hours(1);
        x.watch(0, true);
        x.hours(1);
        x.watch(0, false);
        for (int k = 0; k < 6; k++) {
            x.crew(-1, 1);
        }
        x.crew(5, 0);
        x.hours(2);
        Check.tell(x, "", 0);
        Check.feed(x, "bar");
        int[] want = {4, 2, 4, 1, 7, 6, 2, 2, 5, 20};
        for (int what = 0; what <= 9; what++) {
            Check.due("count(" + what + ")", x.count(what), want[what]);
        }
        Check.noElement("count(10)", () -> x.count(10));
        Check.noElement("count(-1)", () -> x.count(-1));
    }
}
