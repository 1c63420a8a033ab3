/** The boundaries that promises 15, 16 and 20 to 25 name: orders, heaps, mills, waters, boards, accounts, counts. */
public final class MillBoundaryTest {
    private static final int LEAST = Boundaries.LEAST;
    private static final int GREATEST = Boundaries.GREATEST;

    public static void main(String[] args) {
        Boundaries.run(MillBoundaryTest.class);
    }

    // ---- promise 15: order

    private static void isNoOrder(int mark, int size, int n) {
        String call = "order(0, " + mark + ", " + size + ", " + n + ")";
        Boundaries.refused(call, x -> x.order(0, mark, size, n), -1);
    }

    private static void isOrder(int mark, int size, int n) {
        LogRiver x = Boundaries.catching(5);
        Check.due("order(0, " + mark + ", " + size + ", " + n + ")", x.order(0, mark, size, n), 0);
        Check.due("wants(0)", x.wants(0), n);
        Check.due("count(8)", x.count(8), 1);
    }

    static void promise15_noSuchReach() {
        for (int reach : new int[] {-1, 2, 10, LEAST, GREATEST}) {
            Boundaries.refusedByNoElement("order(" + reach + ", 1, 1, 1)", x -> x.order(reach, 1, 1, 1));
            Boundaries.refusedByNoElement("order(" + reach + ", -1, 0, 0)", x -> x.order(reach, -1, 0, 0));
        }
    }

    static void promise15_noBoom() {
        Boundaries.refused("order at no BOOM", x -> {
            Boundaries.makeBusy(x);
            x.reach(1, 1, 1, 0);
        }, x -> x.order(2, 1, 1, 1), "-1");
    }

    static void promise15_boomThatCatchesNone() {
        LogRiver x = Boundaries.oneReach(1, 1);
        x.boom(0, 0, 1);
        Check.due("it takes ORDERS", x.order(0, 1, 1, 1), 0);
    }

    static void promise15_markTooSmall() {
        isNoOrder(-1, 1, 1);
        isNoOrder(LEAST, 1, 1);
    }

    static void promise15_markSmallest() {
        isOrder(0, 5, 5);
    }

    static void promise15_markLargest() {
        isOrder(15, 5, 5);
    }

    static void promise15_markTooLarge() {
        isNoOrder(16, 1, 1);
        isNoOrder(GREATEST, 1, 1);
    }

    static void promise15_sizeTooSmall() {
        isNoOrder(1, 0, 1);
        isNoOrder(1, -1, 1);
        isNoOrder(1, LEAST, 1);
    }

    static void promise15_sizeSmallest() {
        isOrder(5, 1, 5);
    }

    static void promise15_sizeLargest() {
        isOrder(5, 9, 5);
    }

    static void promise15_sizeTooLarge() {
        isNoOrder(1, 10, 1);
        isNoOrder(1, GREATEST, 1);
    }

    static void promise15_nTooSmall() {
        isNoOrder(1, 1, 0);
        isNoOrder(1, 1, -1);
        isNoOrder(1, 1, LEAST);
    }

    static void promise15_nSmallest() {
        isOrder(5, 5, 1);
    }

    static void promise15_nLargest() {
        isOrder(5, 5, 100);
    }

    static void promise15_nTooLarge() {
        isNoOrder(1, 1, 101);
        isNoOrder(1, 1, GREATEST);
    }

    private static void makeSixtyOrders(LogRiver x) {
        x.reach(-1, 1, 1, 0);
        x.reach(0, 1, 1, 0);
        x.boom(0, 1, 1);
        x.boom(1, 1, 1);
        for (int order = 0; order < 60; order++) {
            Check.due("order " + order, x.order(order % 2, 1, 1, 1), order);
        }
    }

    static void promise15_the60th() {
        LogRiver x = new LogRiver();
        makeSixtyOrders(x);
        Check.due("count(8)", x.count(8), 60);
        Check.due("wants(59)", x.wants(59), 1);
    }

    static void promise15_the61st() {
        Boundaries.refused("the 61st at 0", MillBoundaryTest::makeSixtyOrders, x -> x.order(0, 1, 1, 1), "-1");
        Boundaries.refused("the 61st at 1", MillBoundaryTest::makeSixtyOrders, x -> x.order(1, 1, 1, 1), "-1");
    }

    static void promise15_filledOnesCountStill() {
        LogRiver x = Boundaries.catching(5);
        Boundaries.letGo(x, 1, 0, 1, 0, 0);
        x.order(0, 0, 1, 1);
        x.hours(1);
        Check.due("it wants no more", x.wants(0), 0);
        for (int order = 1; order < 60; order++) {
            Check.due("order " + order, x.order(0, 0, 1, 1), order);
        }
        Check.due("the 61st of all", x.order(0, 0, 1, 1), -1);
    }

    static void promise15_refusedTakesNoNumber() {
        LogRiver x = Boundaries.catching(5);
        x.order(0, 0, 0, 1);
        Check.due("the first", x.order(0, 0, 1, 1), 0);
        x.order(0, 16, 1, 1);
        Check.due("the second", x.order(0, 0, 1, 1), 1);
    }

    // ---- promise 16: wants, and what the mills do

    static void promise16_noSuchOrder() {
        for (int order : new int[] {-1, 2, 60, LEAST, GREATEST}) {
            Boundaries.refusedByNoElement("wants(" + order + ")", x -> x.wants(order));
        }
        Check.noElement("of none at all", () -> new LogRiver().wants(0));
    }

    static void promise16_noneLeftToWant() {
        LogRiver x = Boundaries.catching(9);
        Boundaries.letGo(x, 5, 0, 1, 0, 0);
        x.order(0, 0, 1, 2);
        x.hours(5);
        Check.due("wants(0)", x.wants(0), 0);
        Check.due("the others stay in the HEAP", x.heap(0, -1), 3);
    }

    static void promise16_emptyHeap() {
        LogRiver x = Boundaries.catching(9);
        x.order(0, 0, 1, 100);
        x.hours(5);
        Check.due("wants(0)", x.wants(0), 100);
        Check.due("no BOARDS", x.count(4), 0);
    }

    static void promise16_heapSmallerThanItWants() {
        LogRiver x = Boundaries.catching(9);
        Boundaries.letGo(x, 2, 0, 1, 0, 0);
        x.order(0, 0, 1, 3);
        x.hours(1);
        Check.due("wants(0)", x.wants(0), 1);
        Check.due("HEAP", x.heap(0, -1), 0);
    }

    static void promise16_threeAnHour() {
        LogRiver x = Boundaries.catching(9);
        Boundaries.letGo(x, 7, 0, 1, 0, 0);
        x.order(0, 0, 1, 100);
        int[] want = {97, 94, 93, 93};
        for (int k = 0; k < want.length; k++) {
            x.hours(1);
            Check.due("after " + (k + 1) + " hours", x.wants(0), want[k]);
        }
    }

    static void promise16_threeAnHourOfAllItsOrders() {
        LogRiver x = Boundaries.catching(9);
        Boundaries.letGo(x, 9, 0, 1, 0, 0);
        for (int order = 0; order < 5; order++) {
            x.order(0, 0, 1, 1);
        }
        x.hours(1);
        for (int order = 0; order < 5; order++) {
            Check.due("wants(" + order + ")", x.wants(order), order < 3 ? 0 : 1);
        }
    }

    static void promise16_threeAnHourOfEachBoom() {
        LogRiver x = Boundaries.catching(9);
        x.reach(-1, 1, 20, 0);
        x.melt(1, 100);
        x.boom(1, -1, 9);
        for (int r = 0; r < 2; r++) {
            Boundaries.letGo(x, 5, 0, 1, r, 0);
            x.order(r, 0, 1, 9);
        }
        x.hours(1);
        Check.due("wants(0)", x.wants(0), 6);
        Check.due("wants(1)", x.wants(1), 6);
    }

    static void promise16_sizeJustAsWanted() {
        LogRiver x = Boundaries.catching(9);
        for (int size = 1; size <= 9; size++) {
            Boundaries.letGo(x, 1, 0, size, 0, 0);
        }
        x.order(0, 0, 7, 100);
        x.hours(2);
        for (int log = 0; log < 9; log++) {
            Check.due("where SIZE " + (log + 1) + " is", x.log(log, 3), log + 1 >= 7 ? 3 : 2);
        }
        Check.due("wants(0)", x.wants(0), 97);
    }

    static void promise16_anotherMark() {
        LogRiver x = Boundaries.catching(9);
        Boundaries.letGo(x, 1, 4, 9, 0, 0);
        Boundaries.letGo(x, 1, 6, 9, 0, 0);
        x.order(0, 5, 1, 1);
        x.hours(3);
        Check.due("wants(0)", x.wants(0), 1);
        Check.due("HEAP", x.heap(0, -1), 2);
    }

    static void promise16_notAheadOfTheHour() {
        LogRiver x = Boundaries.catching(9);
        Boundaries.letGo(x, 1, 0, 1, 0, 0);
        x.hours(1);
        x.order(0, 0, 1, 1);
        x.hours(0);
        Check.due("wants(0)", x.wants(0), 1);
        x.hours(1);
        Check.due("wants(0)", x.wants(0), 0);
    }

    // ---- promise 20: heap

    static void promise20_noSuchReach() {
        for (int reach : new int[] {-1, 2, 10, LEAST, GREATEST}) {
            Boundaries.refusedByNoElement("heap(" + reach + ", 0)", x -> x.heap(reach, 0));
            Boundaries.refusedByNoElement("heap(" + reach + ", -1)", x -> x.heap(reach, -1));
        }
    }

    static void promise20_noBoom() {
        LogRiver x = Boundaries.oneReach(1, 1);
        for (int i : new int[] {-1, 0, 1, -2, LEAST, GREATEST}) {
            Check.due("heap(0, " + i + ")", x.heap(0, i), -1);
        }
    }

    static void promise20_emptyHeap() {
        LogRiver x = Boundaries.catching(5);
        Check.due("how many", x.heap(0, -1), 0);
        Check.due("heap(0, 0)", x.heap(0, 0), -1);
    }

    private static LogRiver heapOfThree() {
        LogRiver x = Boundaries.catching(5);
        Boundaries.letGo(x, 3, 0, 1, 0, 0);
        x.hours(1);
        return x;
    }

    static void promise20_iTooSmall() {
        LogRiver x = heapOfThree();
        Check.due("heap(0, -2)", x.heap(0, -2), -1);
        Check.due("heap(0, the least)", x.heap(0, LEAST), -1);
    }

    static void promise20_firstAndLast() {
        LogRiver x = heapOfThree();
        Check.due("how many", x.heap(0, -1), 3);
        Check.due("the first", x.heap(0, 0), 0);
        Check.due("the last", x.heap(0, 2), 2);
    }

    static void promise20_iTooLarge() {
        LogRiver x = heapOfThree();
        Check.due("heap(0, 3)", x.heap(0, 3), -1);
        Check.due("heap(0, 100)", x.heap(0, 100), -1);
        Check.due("heap(0, the greatest)", x.heap(0, GREATEST), -1);
    }

    static void promise20_afterAllAreSawn() {
        LogRiver x = heapOfThree();
        x.order(0, 0, 1, 3);
        x.hours(1);
        Check.due("how many", x.heap(0, -1), 0);
        Check.due("heap(0, 0)", x.heap(0, 0), -1);
    }

    static void promise20_rowClosesUp() {
        LogRiver x = Boundaries.catching(5);
        for (int mark : new int[] {1, 2, 1, 2}) {
            Boundaries.letGo(x, 1, mark, 1, 0, 0);
        }
        x.order(0, 1, 1, 2);
        x.hours(1);
        int[] want = {2, 1, 3, -1};
        for (int i = -1; i < 3; i++) {
            Check.due("heap(0, " + i + ")", x.heap(0, i), want[i + 1]);
        }
    }

    // ---- promise 21: water

    static void promise21_noSuchReach() {
        for (int reach : new int[] {-1, 2, 10, LEAST, GREATEST}) {
            Boundaries.refusedByNoElement("water(" + reach + ", 0)", x -> x.water(reach, 0));
            Boundaries.refusedByNoElement("water(" + reach + ", 5)", x -> x.water(reach, 5));
        }
    }

    static void promise21_noSuchWhat() {
        for (int what : new int[] {-1, 5, LEAST, GREATEST}) {
            Boundaries.refusedByNoElement("water(0, " + what + ")", x -> x.water(0, what));
        }
    }

    static void promise21_atFirst() {
        LogRiver x = Boundaries.oneReach(7, 1);
        x.melt(0, 500);
        int[] want = {0, 0, -1, -1, 7};
        for (int what = 0; what < 5; what++) {
            Check.due("water(0, " + what + ")", x.water(0, what), want[what]);
        }
    }

    static void promise21_storeWithoutADam() {
        LogRiver x = Boundaries.oneReach(1, 1);
        x.melt(0, 500);
        x.hours(3);
        Check.due("STORE", x.water(0, 2), -1);
        x.dam(0, 5);
        Check.due("STORE of a new DAM", x.water(0, 2), 0);
    }

    static void promise21_latestHourAlone() {
        LogRiver x = Boundaries.oneReach(1, 1);
        x.melt(0, 500);
        x.hours(1);
        x.melt(0, 0);
        Check.due("FLOW till the next HOUR", x.water(0, 0), 500);
        Check.due("OUT till the next HOUR", x.water(0, 1), 500);
        x.hours(1);
        Check.due("FLOW", x.water(0, 0), 0);
        Check.due("OUT", x.water(0, 1), 0);
    }

    static void promise21_mostFlow() {
        LogRiver x = new LogRiver();
        for (int r = 0; r < 10; r++) {
            x.reach(r - 1, 1, 1, 0);
            x.melt(r, 500);
        }
        x.hours(1);
        for (int r = 0; r < 10; r++) {
            Check.due("FLOW of " + r, x.water(r, 0), 500 * (10 - r));
        }
    }

    static void promise21_mostOut() {
        LogRiver x = new LogRiver();
        x.reach(-1, 1, 1, 0);
        for (int r = 1; r < 10; r++) {
            x.reach(0, 1, 1, 0);
        }
        for (int r = 0; r < 10; r++) {
            x.melt(r, 500);
            x.dam(r, 100000);
        }
        x.hours(200);
        for (int r = 0; r < 10; r++) {
            Check.due("STORE of " + r, x.water(r, 2), 100000);
            x.dam(r, 0);
        }
        x.hours(1);
        Check.due("all that was in STORE, at once", x.water(0, 1), 10 * 100500);
        Check.due("to SEA", x.waters(1), 10 * 100500);
    }

    static void promise21_newReachBetweenHours() {
        LogRiver x = Boundaries.oneReach(1, 1);
        x.melt(0, 100);
        x.hours(1);
        x.reach(0, 1, 1, 0);
        Check.due("FLOW of the new one", x.water(1, 0), 0);
        x.melt(1, 50);
        x.hours(1);
        Check.due("FLOW", x.water(0, 0), 150);
    }

    // ---- promise 22: waters

    static void promise22_noSuchWhat() {
        for (int what : new int[] {-1, 2, LEAST, GREATEST}) {
            Boundaries.refusedByNoElement("waters(" + what + ")", x -> x.waters(what));
        }
    }

    static void promise22_atFirst() {
        LogRiver x = Boundaries.oneReach(1, 1);
        x.melt(0, 500);
        Check.due("waters(0)", x.waters(0), 0);
        Check.due("waters(1)", x.waters(1), 0);
    }

    static void promise22_mostOfAll() {
        LogRiver x = new LogRiver();
        for (int r = 0; r < 10; r++) {
            x.reach(r - 1, 1, 1, 0);
            x.melt(r, 500);
        }
        Boundaries.pass(x, 20000);
        Check.due("waters(0)", x.waters(0), 100000000L);
        Check.due("waters(1)", x.waters(1), 100000000L);
    }

    static void promise22_allHeldByADam() {
        LogRiver x = Boundaries.oneReach(1, 1);
        x.dam(0, 1000);
        x.melt(0, 500);
        x.hours(2);
        Check.due("waters(0)", x.waters(0), 1000);
        Check.due("waters(1)", x.waters(1), 0);
        x.hours(1);
        Check.due("what SPILLS goes to SEA", x.waters(1), 500);
    }

    static void promise22_seaOfSeveralReaches() {
        LogRiver x = Boundaries.oneReach(1, 1);
        x.reach(-1, 1, 1, 0);
        x.reach(1, 1, 1, 0);
        x.melt(0, 1);
        x.melt(1, 20);
        x.melt(2, 300);
        x.hours(1);
        Check.due("waters(0)", x.waters(0), 321);
        Check.due("what goes into another REACH counts once", x.waters(1), 321);
    }

    // ---- promise 23: board

    static void promise23_noSuchBoard() {
        for (int board : new int[] {-1, 2, 3600, LEAST, GREATEST}) {
            Boundaries.refusedByNoElement("board(" + board + ")", x -> x.board(board));
        }
        Check.noElement("of none at all", () -> new LogRiver().board(0));
    }

    static void promise23_firstAndLastOfALog() {
        LogRiver x = Boundaries.catching(9);
        for (int size : new int[] {9, 1, 5}) {
            Boundaries.letGo(x, 1, 0, size, 0, 0);
        }
        x.order(0, 0, 1, 3);
        x.hours(1);
        Check.due("board(0)", x.board(0), 0);
        Check.due("board(8)", x.board(8), 0);
        Check.due("board(9)", x.board(9), 1);
        Check.due("board(10)", x.board(10), 2);
        Check.due("board(14)", x.board(14), 2);
        Check.noElement("board(15)", () -> x.board(15));
        Check.due("count(4)", x.count(4), 15);
    }

    static void promise23_logsThatAreNotSawn() {
        LogRiver x = Boundaries.catching(9);
        Boundaries.letGo(x, 1, 1, 9, 0, 0);
        Boundaries.letGo(x, 1, 0, 2, 0, 0);
        x.order(0, 0, 1, 3);
        x.hours(1);
        Check.due("board(0)", x.board(0), 1);
        Check.due("board(1)", x.board(1), 1);
        Check.noElement("board(2)", () -> x.board(2));
    }

    static void promise23_numberedOnFromHourToHour() {
        LogRiver x = Boundaries.catching(9);
        Boundaries.letGo(x, 4, 0, 2, 0, 0);
        x.order(0, 0, 1, 9);
        x.hours(1);
        Check.due("count(4)", x.count(4), 6);
        x.hours(1);
        Check.due("board(6)", x.board(6), 3);
        Check.due("board(7)", x.board(7), 3);
        Check.noElement("board(8)", () -> x.board(8));
    }

    static void promise23_laterLogSawnFirst() {
        LogRiver x = Boundaries.catching(9);
        Boundaries.letGo(x, 1, 1, 3, 0, 0);
        Boundaries.letGo(x, 1, 2, 2, 0, 0);
        x.order(0, 2, 1, 1);
        x.order(0, 1, 1, 1);
        x.hours(1);
        int[] want = {1, 1, 0, 0, 0};
        for (int board = 0; board < want.length; board++) {
            Check.due("board(" + board + ")", x.board(board), want[board]);
        }
    }

    // ---- promise 24: paid

    static void promise24_noSuchMark() {
        for (int mark : new int[] {-1, 16, LEAST, GREATEST}) {
            Boundaries.refusedByNoElement("paid(" + mark + ")", x -> x.paid(mark));
        }
    }

    static void promise24_firstAndLastMark() {
        LogRiver x = Boundaries.catching(9);
        Check.tell(x, "toll 100 + mark;", 0);
        Boundaries.letGo(x, 1, 0, 9, 0, 0);
        Boundaries.letGo(x, 1, 15, 9, 0, 0);
        x.hours(1);
        for (int mark = 0; mark < 16; mark++) {
            Check.due("paid(" + mark + ")", x.paid(mark), mark == 0 ? 100 : mark == 15 ? 115 : 0);
        }
    }

    private static LogRiver paying(String toll, int logs) {
        LogRiver x = Boundaries.catching(100);
        Check.due("law of " + toll, Check.tell(x, toll, 0), 0);
        Boundaries.letGo(x, logs, 3, 9, 0, 0);
        x.hours(1);
        return x;
    }

    static void promise24_belowZero() {
        Check.due("paid(3)", paying("toll 0 - 7;", 3).paid(3), -21);
    }

    static void promise24_fallsAndRises() {
        LogRiver x = Boundaries.catching(9);
        Check.tell(x, "toll 5 - 10 * hour;", 0);
        long[] want = {5, 0, -15};
        for (int k = 0; k < want.length; k++) {
            Boundaries.letGo(x, 1, 3, 9, 0, 0);
            x.hours(1);
            Check.due("after HOUR " + k, x.paid(3), want[k]);
        }
    }

    static void promise24_aboveTheGreatestInt() {
        Check.due("paid(3)", paying("toll 65536 * 32767 + 65535;", 20).paid(3), 20L * GREATEST);
    }

    static void promise24_belowTheLeastInt() {
        Check.due("paid(3)", paying("toll 65536 * 32768;", 20).paid(3), 20L * LEAST);
    }

    static void promise24_nothingWithoutALaw() {
        LogRiver x = Boundaries.catching(9);
        Boundaries.letGo(x, 3, 3, 9, 0, 0);
        x.hours(1);
        Check.due("paid(3)", x.paid(3), 0);
    }

    static void promise24_onlyIntoAHeap() {
        LogRiver x = Boundaries.oneReach(2, 2);
        Check.tell(x, "toll 9;", 0);
        x.melt(0, 100);
        x.boom(0, 2, 5);
        Boundaries.letGo(x, 1, 0, 9, 0, 1);
        Boundaries.letGo(x, 1, 1, 9, 0, 0);
        Check.due("let", x.paid(0) + x.paid(1), 0);
        x.hours(1);
        Check.due("a step, and one to SEA", x.paid(0) + x.paid(1), 0);
        x.hours(1);
        Check.due("into the HEAP", x.paid(1), 9);
        x.order(0, 1, 1, 1);
        x.hours(1);
        Check.due("SAWN", x.paid(1), 9);
    }

    // ---- promise 25: count

    static void promise25_noSuchWhat() {
        for (int what : new int[] {-1, 10, LEAST, GREATEST}) {
            Boundaries.refusedByNoElement("count(" + what + ")", x -> x.count(what));
        }
    }

    static void promise25_hourAtItsMost() {
        LogRiver x = new LogRiver();
        Boundaries.pass(x, 20000);
        Check.due("count(0)", x.count(0), 20000);
    }

    static void promise25_boardsOfSizeNine() {
        LogRiver x = Boundaries.catching(100);
        x.order(0, 0, 9, 100);
        for (int k = 0; k < 5; k++) {
            Boundaries.letGo(x, 20, 0, 9, 0, 0);
            x.hours(7);
        }
        Check.due("100 logs", x.count(4), 900);
        Check.due("the last BOARD", x.board(899), 99);
        Check.noElement("none behind it", () -> x.board(900));
    }

    static void promise25_allCellsJammedAndKnown() {
        LogRiver x = new LogRiver();
        for (int r = 0; r < 10; r++) {
            x.reach(-1, 12, 1, 1);
            for (int c = 0; c < 12; c++) {
                Boundaries.letGo(x, 1, 0, 9, r, c);
            }
        }
        x.hours(1);
        Check.due("JAMMED", x.count(6), 120);
        Check.due("KNOWN", x.count(7), 0);
        for (int r = 0; r < 10; r++) {
            x.watch(r, true);
        }
        x.hours(1);
        Check.due("JAMMED", x.count(6), 120);
        Check.due("KNOWN", x.count(7), 120);
    }

    static void promise25_knownAreOnlyTheSeenOnes() {
        LogRiver x = RiverBoundaryTest.jammed(3);
        x.watch(0, true);
        x.hours(1);
        x.watch(0, false);
        x.crew(-1, 0);
        x.hours(2);
        Check.due("JAMMED", x.count(6), 2);
        Check.due("KNOWN", x.count(7), 2);
    }

    static void promise25_othersAtTheirMost() {
        LogRiver x = Boundaries.oneReach(1, 1);
        x.boom(0, 0, 1);
        for (int k = 0; k < 70; k++) {
            x.reach(0, 1, 1, 0);
            x.crew(-1, 0);
            x.order(0, 0, 1, 1);
            x.law(0, 0);
        }
        for (int k = 0; k < 30; k++) {
            x.feed(0, 0, 0, 0, 0);
        }
        Check.due("REACHES", x.count(1), 10);
        Check.due("LAWS", x.count(3), 6);
        Check.due("CREWS", x.count(5), 6);
        Check.due("ORDERS", x.count(8), 60);
        Check.due("bytes of the tape", x.count(9), 500);
    }

    static void promise25_logsAtTheirMost() {
        LogRiver x = new LogRiver();
        for (int k = 0; k < 410; k++) {
            x.cut(0, 1, 0);
        }
        Check.due("LOGS", x.count(2), 400);
    }
}
