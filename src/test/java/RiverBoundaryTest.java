/** The boundaries that promises 1 to 8 name: a new object, reaches, dams, gates, melt, booms, watches, crews. */
public final class RiverBoundaryTest {
    private static final int LEAST = Boundaries.LEAST;
    private static final int GREATEST = Boundaries.GREATEST;

    public static void main(String[] args) {
        Boundaries.run(RiverBoundaryTest.class);
    }

    // ---- promise 1: a new object

    static void promise01_hourIsZero() {
        Check.due("count(0)", new LogRiver().count(0), 0);
        Check.due("hours(0)", new LogRiver().hours(0), 0);
    }

    static void promise01_nothingIsCounted() {
        LogRiver x = new LogRiver();
        for (int what = 0; what <= 9; what++) {
            Check.due("count(" + what + ")", x.count(what), 0);
        }
    }

    static void promise01_noReaches() {
        LogRiver x = new LogRiver();
        x.cut(0, 1, 0);
        Check.noElement("dam", () -> x.dam(0, 1) ? 1 : 0);
        Check.noElement("gate", () -> x.gate(0, 1));
        Check.noElement("melt", () -> x.melt(0, 1));
        Check.noElement("boom", () -> x.boom(0, 1, 1) ? 1 : 0);
        Check.noElement("watch", () -> x.watch(0, true) ? 1 : 0);
        Check.noElement("crew", () -> x.crew(-1, 0));
        Check.noElement("let", () -> x.let(0, 0, 0));
        Check.noElement("order", () -> x.order(0, 1, 1, 1));
        Check.noElement("cell", () -> x.cell(0, 0, 0));
        Check.noElement("inCell", () -> x.inCell(0, 0, 0));
        Check.noElement("heap", () -> x.heap(0, -1));
        Check.noElement("water", () -> x.water(0, 0));
    }

    static void promise01_noLogsOrdersBoards() {
        LogRiver x = Boundaries.oneReach(1, 1);
        Check.noElement("let", () -> x.let(0, 0, 0));
        Check.noElement("log", () -> x.log(0, 0));
        Check.noElement("wants", () -> x.wants(0));
        Check.noElement("board", () -> x.board(0));
    }

    static void promise01_noLaws() {
        LogRiver x = Boundaries.catching(1);
        Check.due("fault()", x.fault(), -1);
        Check.due("none bars", Boundaries.letGo(x, 1, 3, 1, 0, 0), 1);
        x.hours(1);
        Check.due("none takes a toll", x.paid(3), 0);
    }

    static void promise01_hoursWithoutReaches() {
        LogRiver x = new LogRiver();
        x.cut(0, 1, 0);
        Check.due("hours(200)", x.hours(200), 200);
        Check.due("a log on the BANK is no older", x.log(0, 6), 0);
        Check.due("no water", x.waters(0) + x.waters(1), 0);
    }

    static void promise01_objectsShareNothing() {
        LogRiver x = new LogRiver();
        LogRiver y = new LogRiver();
        Boundaries.makeBusy(x);
        Check.due("another object", Boundaries.seen(y), Boundaries.seen(new LogRiver()));
    }

    static void promise01_the512thCall() {
        LogRiver x = new LogRiver();
        for (int log = 0; log < 400; log++) {
            x.cut(0, 1, 0);
        }
        for (int call = 400; call < 511; call++) {
            x.hours(1);
        }
        Check.due("hours(1)", x.hours(1), 112);
    }

    // ---- promise 2: reach

    private static void isNoReach(int next, int length, int carry, int jam) {
        String call = "reach(" + next + ", " + length + ", " + carry + ", " + jam + ")";
        Boundaries.refused(call, x -> x.reach(next, length, carry, jam), -1);
    }

    private static void isReach(int next, int length, int carry, int jam) {
        LogRiver x = Boundaries.oneReach(1, 1);
        Check.due("reach(" + next + ", " + length + ", " + carry + ", " + jam + ")", x.reach(next, length, carry, jam), 1);
        Check.due("count(1)", x.count(1), 2);
    }

    static void promise02_lengthTooSmall() {
        isNoReach(-1, 0, 1, 0);
        isNoReach(-1, -1, 1, 0);
        isNoReach(-1, LEAST, 1, 0);
    }

    static void promise02_lengthSmallest() {
        isReach(-1, 1, 5, 5);
        LogRiver x = Boundaries.oneReach(1, 1);
        Check.due("CELL 0", x.cell(0, 0, 0), 0);
        Check.noElement("CELL 1", () -> x.cell(0, 1, 0));
    }

    static void promise02_lengthLargest() {
        isReach(-1, 12, 5, 5);
        LogRiver x = Boundaries.oneReach(12, 1);
        Check.due("LENGTH", x.water(0, 4), 12);
        Check.due("CELL 11", x.cell(0, 11, 0), 0);
        Check.noElement("CELL 12", () -> x.cell(0, 12, 0));
    }

    static void promise02_lengthTooLarge() {
        isNoReach(-1, 13, 1, 0);
        isNoReach(-1, GREATEST, 1, 0);
    }

    static void promise02_carryTooSmall() {
        isNoReach(-1, 1, 0, 0);
        isNoReach(-1, 1, -1, 0);
        isNoReach(-1, 1, LEAST, 0);
    }

    static void promise02_carrySmallest() {
        isReach(-1, 5, 1, 5);
        Check.due("of 3 logs", Boundaries.letGo(Boundaries.oneReach(1, 1), 3, 0, 1, 0, 0), 1);
    }

    static void promise02_carryLargest() {
        isReach(-1, 5, 20, 5);
        Check.due("of 22 logs", Boundaries.letGo(Boundaries.oneReach(1, 20), 22, 0, 1, 0, 0), 20);
    }

    static void promise02_carryTooLarge() {
        isNoReach(-1, 1, 21, 0);
        isNoReach(-1, 1, GREATEST, 0);
    }

    static void promise02_jamTooSmall() {
        isNoReach(-1, 1, 1, -1);
        isNoReach(-1, 1, 1, LEAST);
    }

    static void promise02_jamSmallest() {
        isReach(-1, 1, 1, 0);
        LogRiver x = Boundaries.oneReach(1, 1);
        Boundaries.letGo(x, 1, 0, 1, 0, 0);
        x.hours(1);
        Check.due("no FLOW is below 0", x.cell(0, 0, 1), 0);
    }

    /** A reach with JAM 1000, a full cell and a FLOW of 1000 less this; it is JAMMED after an hour. */
    private static int jammedBelowAThousandBy(int less) {
        LogRiver x = new LogRiver();
        x.reach(-1, 8, 1, 1000);
        x.reach(0, 1, 1, 0);
        x.melt(0, 500);
        x.melt(1, 500 - less);
        Boundaries.letGo(x, 1, 0, 9, 0, 0);
        x.hours(1);
        return x.count(6);
    }

    static void promise02_jamLargest() {
        isReach(-1, 1, 1, 1000);
        Check.due("FLOW 999", jammedBelowAThousandBy(1), 1);
        Check.due("FLOW 1000", jammedBelowAThousandBy(0), 0);
    }

    static void promise02_jamTooLarge() {
        isNoReach(-1, 1, 1, 1001);
        isNoReach(-1, 1, 1, GREATEST);
    }

    static void promise02_nextNone() {
        isReach(-1, 1, 1, 0);
        Check.due("NEXT of one to the sea", Boundaries.oneReach(1, 1).water(0, 3), -1);
    }

    static void promise02_nextTooSmall() {
        isNoReach(-2, 1, 1, 0);
        isNoReach(LEAST, 1, 1, 0);
    }

    static void promise02_nextFirstAndLatest() {
        LogRiver x = Boundaries.oneReach(1, 1);
        x.reach(0, 1, 1, 0);
        Check.due("the latest is NEXT", x.reach(1, 1, 1, 0), 2);
        Check.due("the first is NEXT", x.reach(0, 1, 1, 0), 3);
        Check.due("NEXT of 2", x.water(2, 3), 1);
        Check.due("NEXT of 3", x.water(3, 3), 0);
    }

    static void promise02_nextItself() {
        isNoReach(2, 1, 1, 0);
        Check.due("the first one", new LogRiver().reach(0, 1, 1, 0), -1);
    }

    static void promise02_nextTooLarge() {
        isNoReach(3, 1, 1, 0);
        isNoReach(9, 1, 1, 0);
        isNoReach(10, 1, 1, 0);
        isNoReach(GREATEST, 1, 1, 0);
    }

    private static void makeTenReaches(LogRiver x) {
        for (int r = 0; r < 10; r++) {
            Check.due("reach " + r, x.reach(r - 1, 1, 1, 0), r);
        }
    }

    static void promise02_tenthIsMade() {
        LogRiver x = new LogRiver();
        makeTenReaches(x);
        Check.due("count(1)", x.count(1), 10);
        Check.due("NEXT of 9", x.water(9, 3), 8);
        Check.due("melt(9, 1)", x.melt(9, 1), 0);
    }

    static void promise02_eleventhIsRefused() {
        Boundaries.refused("the eleventh", RiverBoundaryTest::makeTenReaches, x -> x.reach(-1, 1, 1, 0), "-1");
        Boundaries.refused("the eleventh into 9", RiverBoundaryTest::makeTenReaches, x -> x.reach(9, 1, 1, 0), "-1");
    }

    static void promise02_refusedTakesNoNumber() {
        LogRiver x = new LogRiver();
        x.reach(-1, 0, 1, 0);
        Check.due("the first", x.reach(-1, 1, 1, 0), 0);
        x.reach(5, 1, 1, 0);
        Check.due("the second", x.reach(-1, 1, 1, 0), 1);
    }

    static void promise02_nothingStandsOnANewOne() {
        LogRiver x = Boundaries.oneReach(2, 1);
        Check.due("FLOW, OUT", x.water(0, 0) + x.water(0, 1), 0);
        Check.due("no DAM", x.water(0, 2), -1);
        Check.due("no BOOM", x.heap(0, -1), -1);
        Check.due("no WATCH", x.watch(0, false), false);
        Check.due("no MELT", x.melt(0, 0), 0);
        Check.due("no logs", x.cell(0, 0, 0) + x.cell(0, 1, 0), 0);
    }

    // ---- promise 3: dam

    static void promise03_noSuchReach() {
        for (int reach : new int[] {-1, 2, 10, LEAST, GREATEST}) {
            Boundaries.refusedByNoElement("dam(" + reach + ", 5)", x -> x.dam(reach, 5) ? 1 : 0);
            Boundaries.refusedByNoElement("dam(" + reach + ", -5)", x -> x.dam(reach, -5) ? 1 : 0);
        }
    }

    static void promise03_roomTooSmall() {
        for (int reach = 0; reach < 2; reach++) {
            int at = reach;
            Boundaries.refused("dam(" + at + ", -1)", x -> x.dam(at, -1) ? 1 : 0, 0);
            Boundaries.refused("dam(" + at + ", the least)", x -> x.dam(at, LEAST) ? 1 : 0, 0);
        }
    }

    static void promise03_roomTooLarge() {
        for (int reach = 0; reach < 2; reach++) {
            int at = reach;
            Boundaries.refused("dam(" + at + ", 100001)", x -> x.dam(at, 100001) ? 1 : 0, 0);
            Boundaries.refused("dam(" + at + ", the greatest)", x -> x.dam(at, GREATEST) ? 1 : 0, 0);
        }
    }

    static void promise03_roomSmallest() {
        LogRiver x = Boundaries.oneReach(1, 1);
        Check.due("dam(0, 0)", x.dam(0, 0), true);
        Check.due("STORE at first", x.water(0, 2), 0);
        x.melt(0, 7);
        x.hours(1);
        Check.due("all SPILLS", x.water(0, 1), 7);
        Check.due("STORE", x.water(0, 2), 0);
    }

    static void promise03_roomLargest() {
        LogRiver x = Boundaries.oneReach(1, 1);
        Check.due("dam(0, 100000)", x.dam(0, 100000), true);
        x.melt(0, 500);
        x.hours(200);
        Check.due("it just holds 100000", x.water(0, 2), 100000);
        Check.due("none went to SEA", x.waters(1), 0);
        x.hours(1);
        Check.due("more SPILLS", x.water(0, 1), 500);
        Check.due("STORE", x.water(0, 2), 100000);
    }

    static void promise03_storeJustFull() {
        LogRiver x = Boundaries.oneReach(1, 1);
        x.dam(0, 100);
        x.melt(0, 100);
        x.hours(1);
        Check.due("STORE", x.water(0, 2), 100);
        Check.due("none SPILLS", x.water(0, 1), 0);
    }

    static void promise03_storeOneAboveFull() {
        LogRiver x = Boundaries.oneReach(1, 1);
        x.dam(0, 100);
        x.melt(0, 101);
        x.hours(1);
        Check.due("STORE", x.water(0, 2), 100);
        Check.due("one SPILLS", x.water(0, 1), 1);
    }

    private static LogRiver storing(int store) {
        LogRiver x = Boundaries.oneReach(1, 1);
        x.dam(0, 1000);
        x.melt(0, store);
        x.hours(1);
        x.melt(0, 0);
        return x;
    }

    static void promise03_roomBelowStore() {
        LogRiver x = storing(400);
        Check.due("dam(0, 100)", x.dam(0, 100), true);
        Check.due("it stays in STORE", x.water(0, 2), 400);
        x.hours(0);
        Check.due("till the next HOUR", x.water(0, 2), 400);
        x.hours(1);
        Check.due("then 300 SPILL", x.water(0, 1), 300);
        Check.due("STORE", x.water(0, 2), 100);
    }

    static void promise03_roomZeroBelowStore() {
        LogRiver x = storing(400);
        x.gate(0, 9);
        x.dam(0, 0);
        x.hours(1);
        Check.due("all SPILLS, none is left for the GATE", x.water(0, 1), 400);
        Check.due("STORE", x.water(0, 2), 0);
    }

    static void promise03_roomBelowStoreAndBack() {
        LogRiver x = storing(400);
        x.dam(0, 100);
        x.dam(0, 400);
        x.hours(1);
        Check.due("none SPILLS", x.water(0, 1), 0);
        Check.due("STORE", x.water(0, 2), 400);
    }

    static void promise03_oneThatIsThereKeepsStoreAndGate() {
        LogRiver x = storing(400);
        x.gate(0, 30);
        x.dam(0, 2000);
        Check.due("STORE", x.water(0, 2), 400);
        x.hours(1);
        Check.due("OUT", x.water(0, 1), 30);
        Check.due("GATE", x.gate(0, 0), 30);
    }

    // ---- promise 4: gate

    static void promise04_noSuchReach() {
        for (int reach : new int[] {-1, 2, LEAST, GREATEST}) {
            Boundaries.refusedByNoElement("gate(" + reach + ", 5)", x -> x.gate(reach, 5));
            Boundaries.refusedByNoElement("gate(" + reach + ", -5)", x -> x.gate(reach, -5));
        }
    }

    static void promise04_noDam() {
        Boundaries.refused("gate(0, 5)", x -> x.gate(0, 5), -1);
        Boundaries.refused("gate(0, -5)", x -> x.gate(0, -5), -1);
        LogRiver x = Boundaries.oneReach(1, 1);
        x.gate(0, 5);
        x.dam(0, 10);
        Check.due("a GATE that was told ahead of the DAM is none", x.gate(0, 1), 0);
    }

    static void promise04_tooSmall() {
        Boundaries.refused("gate(1, -1)", x -> x.gate(1, -1), -1);
        Boundaries.refused("gate(1, the least)", x -> x.gate(1, LEAST), -1);
    }

    static void promise04_tooLarge() {
        Boundaries.refused("gate(1, 1001)", x -> x.gate(1, 1001), -1);
        Boundaries.refused("gate(1, the greatest)", x -> x.gate(1, GREATEST), -1);
    }

    static void promise04_smallest() {
        LogRiver x = storing(300);
        Check.due("at first", x.gate(0, 5), 0);
        Check.due("gate(0, 0)", x.gate(0, 0), 5);
        x.hours(1);
        Check.due("OUT", x.water(0, 1), 0);
        Check.due("STORE", x.water(0, 2), 300);
    }

    static void promise04_largest() {
        LogRiver x = Boundaries.oneReach(1, 1);
        x.dam(0, 100000);
        x.melt(0, 500);
        x.hours(3);
        Check.due("gate(0, 1000)", x.gate(0, 1000), 0);
        x.hours(1);
        Check.due("OUT", x.water(0, 1), 1000);
        Check.due("STORE", x.water(0, 2), 1000);
        Check.due("what it was", x.gate(0, 0), 1000);
    }

    static void promise04_justWhatIsInStore() {
        LogRiver x = storing(300);
        x.gate(0, 300);
        x.hours(1);
        Check.due("OUT", x.water(0, 1), 300);
        Check.due("STORE", x.water(0, 2), 0);
    }

    static void promise04_moreThanIsInStore() {
        LogRiver x = storing(300);
        x.gate(0, 301);
        x.hours(1);
        Check.due("OUT", x.water(0, 1), 300);
        Check.due("STORE", x.water(0, 2), 0);
        x.hours(1);
        Check.due("OUT of an empty STORE", x.water(0, 1), 0);
        Check.due("STORE", x.water(0, 2), 0);
    }

    static void promise04_moreThanIsInStoreBehindASpill() {
        LogRiver x = Boundaries.oneReach(1, 1);
        x.dam(0, 100);
        x.gate(0, 1000);
        x.melt(0, 500);
        x.hours(1);
        Check.due("400 SPILL, 100 by the GATE", x.water(0, 1), 500);
        Check.due("STORE", x.water(0, 2), 0);
    }

    // ---- promise 5: melt

    static void promise05_noSuchReach() {
        for (int reach : new int[] {-1, 2, LEAST, GREATEST}) {
            Boundaries.refusedByNoElement("melt(" + reach + ", 5)", x -> x.melt(reach, 5));
            Boundaries.refusedByNoElement("melt(" + reach + ", 501)", x -> x.melt(reach, 501));
        }
    }

    static void promise05_tooSmall() {
        Boundaries.refused("melt(0, -1)", x -> x.melt(0, -1), -1);
        Boundaries.refused("melt(1, the least)", x -> x.melt(1, LEAST), -1);
    }

    static void promise05_tooLarge() {
        Boundaries.refused("melt(0, 501)", x -> x.melt(0, 501), -1);
        Boundaries.refused("melt(1, the greatest)", x -> x.melt(1, GREATEST), -1);
    }

    static void promise05_smallest() {
        LogRiver x = Boundaries.oneReach(1, 1);
        x.melt(0, 9);
        Check.due("melt(0, 0)", x.melt(0, 0), 9);
        x.hours(1);
        Check.due("FLOW", x.water(0, 0), 0);
    }

    static void promise05_largest() {
        LogRiver x = Boundaries.oneReach(1, 1);
        Check.due("at first", x.melt(0, 500), 0);
        x.hours(1);
        Check.due("FLOW", x.water(0, 0), 500);
        Check.due("what it was", x.melt(0, 500), 500);
    }

    static void promise05_notAheadOfTheHour() {
        LogRiver x = Boundaries.oneReach(1, 1);
        x.melt(0, 500);
        x.hours(0);
        Check.due("FLOW", x.water(0, 0), 0);
        Check.due("waters(0)", x.waters(0), 0);
    }

    // ---- promise 6: boom

    static void promise06_noSuchReach() {
        for (int reach : new int[] {-1, 2, LEAST, GREATEST}) {
            Boundaries.refusedByNoElement("boom(" + reach + ", -1, 5)", x -> x.boom(reach, -1, 5) ? 1 : 0);
            Boundaries.refusedByNoElement("boom(" + reach + ", -1, 0)", x -> x.boom(reach, -1, 0) ? 1 : 0);
        }
    }

    static void promise06_roomTooSmall() {
        Boundaries.refused("boom(0, -1, 0)", x -> x.boom(0, -1, 0) ? 1 : 0, 0);
        Boundaries.refused("boom(0, -1, -1)", x -> x.boom(0, -1, -1) ? 1 : 0, 0);
        Boundaries.refused("boom(0, -1, the least)", x -> x.boom(0, -1, LEAST) ? 1 : 0, 0);
    }

    static void promise06_roomTooLarge() {
        Boundaries.refused("boom(0, -1, 101)", x -> x.boom(0, -1, 101) ? 1 : 0, 0);
        Boundaries.refused("boom(0, -1, the greatest)", x -> x.boom(0, -1, GREATEST) ? 1 : 0, 0);
    }

    static void promise06_refusedMakesNone() {
        LogRiver x = Boundaries.oneReach(1, 1);
        x.boom(0, -1, 0);
        x.boom(0, -1, 101);
        Check.due("no BOOM: heap", x.heap(0, -1), -1);
        Check.due("no BOOM: order", x.order(0, 1, 1, 1), -1);
    }

    static void promise06_roomSmallest() {
        LogRiver x = Boundaries.catching(1);
        Boundaries.letGo(x, 2, 0, 9, 0, 0);
        x.hours(1);
        Check.due("one in the HEAP", x.heap(0, -1), 1);
        Check.due("the other stays", x.log(1, 3), 1);
    }

    static void promise06_roomLargest() {
        LogRiver x = Boundaries.catching(100);
        for (int k = 0; k < 5; k++) {
            Check.due("20 more", Boundaries.letGo(x, 20, 0, 9, 0, 0), 20);
            x.hours(1);
        }
        Check.due("100 in the HEAP", x.heap(0, -1), 100);
        Check.due("the 100th", x.heap(0, 99), 99);
        Boundaries.letGo(x, 1, 0, 9, 0, 0);
        x.hours(1);
        Check.due("the 101st stays", x.log(100, 3), 1);
        Check.due("100 still", x.heap(0, -1), 100);
    }

    /** Whether a boom with these marks catches a log of this one. */
    private static boolean catches(int marks, int mark) {
        LogRiver x = Boundaries.catching(5);
        x.boom(0, marks, 5);
        Boundaries.letGo(x, 1, mark, 9, 0, 0);
        x.hours(1);
        return x.heap(0, -1) == 1;
    }

    static void promise06_marksOneBitEach() {
        for (int mark = 0; mark < 16; mark++) {
            Check.due("just its own bit: " + mark, catches(1 << mark, mark), true);
            Check.due("all but its own bit: " + mark, catches(~(1 << mark), mark), false);
        }
    }

    static void promise06_marksNone() {
        Check.due("0 catches none", catches(0, 0), false);
        Check.due("0 catches none", catches(0, 15), false);
    }

    static void promise06_marksAboveTheLowest16() {
        for (int mark = 0; mark < 16; mark++) {
            Check.due("bits 16 to 31 catch none: " + mark, catches(0xFFFF0000, mark), false);
            Check.due("nor do they hinder: " + mark, catches(-1, mark), true);
        }
        Check.due("the least int", catches(LEAST, 15), false);
        Check.due("the greatest int", catches(GREATEST, 15), true);
    }

    static void promise06_oneThatIsThereKeepsHeapAndOrders() {
        LogRiver x = Boundaries.catching(5);
        Boundaries.letGo(x, 3, 0, 9, 0, 0);
        x.hours(1);
        x.order(0, 0, 1, 2);
        x.boom(0, 0, 4);
        Check.due("HEAP", x.heap(0, -1), 3);
        x.hours(1);
        Check.due("two are SAWN for the ORDER", x.heap(0, -1), 1);
        Check.due("wants(0)", x.wants(0), 0);
    }

    static void promise06_roomBelowHeap() {
        LogRiver x = Boundaries.catching(5);
        Boundaries.letGo(x, 3, 0, 9, 0, 0);
        x.hours(1);
        Check.due("boom(0, -1, 1)", x.boom(0, -1, 1), true);
        Boundaries.letGo(x, 1, 0, 9, 0, 0);
        x.hours(1);
        Check.due("HEAP", x.heap(0, -1), 3);
        Check.due("it takes no more", x.log(3, 3), 1);
    }

    static void promise06_roomJustAboveHeap() {
        LogRiver x = Boundaries.catching(5);
        Boundaries.letGo(x, 3, 0, 9, 0, 0);
        x.hours(1);
        x.boom(0, -1, 4);
        Boundaries.letGo(x, 2, 0, 9, 0, 0);
        x.hours(1);
        Check.due("HEAP", x.heap(0, -1), 4);
        Check.due("the fifth stays", x.log(4, 3), 1);
    }

    // ---- promise 7: watch

    static void promise07_noSuchReach() {
        for (int reach : new int[] {-1, 2, LEAST, GREATEST}) {
            Boundaries.refusedByNoElement("watch(" + reach + ", true)", x -> x.watch(reach, true) ? 1 : 0);
            Boundaries.refusedByNoElement("watch(" + reach + ", false)", x -> x.watch(reach, false) ? 1 : 0);
        }
    }

    static void promise07_noneToTakeAway() {
        LogRiver x = Boundaries.oneReach(1, 1);
        Check.due("there was none", x.watch(0, false), false);
        Check.due("and is none", x.watch(0, true), false);
    }

    static void promise07_oneThatIsThere() {
        LogRiver x = Boundaries.oneReach(1, 1);
        x.watch(0, true);
        Check.due("a second one", x.watch(0, true), true);
        Check.due("is taken away with the first", x.watch(0, false), true);
        Check.due("none is left", x.watch(0, false), false);
    }

    static void promise07_ofItsReachAlone() {
        LogRiver x = Boundaries.oneReach(1, 1);
        x.reach(0, 1, 1, 0);
        x.watch(1, true);
        Check.due("none in 0", x.watch(0, false), false);
        Check.due("one in 1", x.watch(1, true), true);
    }

    static void promise07_goneAheadOfTheHour() {
        LogRiver x = new LogRiver();
        x.reach(-1, 1, 1, 50);
        Boundaries.letGo(x, 1, 0, 9, 0, 0);
        x.watch(0, true);
        x.watch(0, false);
        x.hours(1);
        Check.due("JAMMED", x.cell(0, 0, 1), 1);
        Check.due("not KNOWN", x.cell(0, 0, 2), 0);
    }

    // ---- promise 8: crew

    static void promise08_noSuchReach() {
        for (int reach : new int[] {-1, 2, LEAST, GREATEST}) {
            Boundaries.refusedByNoElement("crew(-1, " + reach + ")", x -> x.crew(-1, reach));
            Boundaries.refusedByNoElement("crew(0, " + reach + ")", x -> x.crew(0, reach));
            Boundaries.refusedByNoElement("crew(5, " + reach + ")", x -> x.crew(5, reach));
        }
    }

    static void promise08_noSuchCrew() {
        for (int crew : new int[] {-2, 1, 5, 6, LEAST, GREATEST}) {
            Boundaries.refused("crew(" + crew + ", 0)", x -> x.crew(crew, 0), -1);
        }
        Check.due("of none at all", Boundaries.oneReach(1, 1).crew(0, 0), -1);
    }

    private static void makeSixCrews(LogRiver x) {
        x.reach(-1, 1, 1, 0);
        x.reach(0, 1, 1, 0);
        for (int crew = 0; crew < 6; crew++) {
            Check.due("crew " + crew, x.crew(-1, 0), crew);
        }
    }

    static void promise08_sixthIsMade() {
        LogRiver x = new LogRiver();
        makeSixCrews(x);
        Check.due("count(5)", x.count(5), 6);
    }

    static void promise08_seventhIsRefused() {
        Boundaries.refused("the seventh", RiverBoundaryTest::makeSixCrews, x -> x.crew(-1, 0), "-1");
        Boundaries.refused("crew 6", RiverBoundaryTest::makeSixCrews, x -> x.crew(6, 0), "-1");
    }

    static void promise08_oneOfSixCanMove() {
        LogRiver x = new LogRiver();
        makeSixCrews(x);
        Check.due("crew(5, 1)", x.crew(5, 1), 5);
        Check.due("crew(0, 1)", x.crew(0, 1), 0);
        Check.due("count(5)", x.count(5), 6);
    }

    /** Cells that are all JAMMED, in a reach whose FLOW jams none anew. */
    static LogRiver jammed(int cells) {
        LogRiver x = new LogRiver();
        x.reach(-1, cells, 1, 50);
        x.reach(-1, 1, 1, 0);
        for (int c = 0; c < cells; c++) {
            Boundaries.letGo(x, 1, 0, 9, 0, c);
        }
        x.hours(1);
        x.melt(0, 60);
        return x;
    }

    static void promise08_cameAheadOfThisHour() {
        LogRiver x = jammed(1);
        x.crew(-1, 0);
        x.hours(1);
        Check.due("it frees none", x.count(6), 1);
    }

    static void promise08_cameAheadOfTheHourAhead() {
        LogRiver x = jammed(1);
        x.crew(-1, 0);
        x.hours(2);
        Check.due("it frees one", x.count(6), 0);
    }

    static void promise08_cameInTheVeryFirstHour() {
        LogRiver x = new LogRiver();
        x.reach(-1, 1, 1, 50);
        Boundaries.letGo(x, 1, 0, 9, 0, 0);
        x.crew(-1, 0);
        x.hours(1);
        Check.due("no HOUR was ahead", x.count(6), 1);
        x.hours(1);
        Check.due("one was", x.count(6), 0);
    }

    static void promise08_freedOneInTheHourAhead() {
        LogRiver x = jammed(2);
        x.crew(-1, 0);
        x.hours(2);
        Check.due("one is freed", x.count(6), 1);
        x.hours(1);
        Check.due("then none", x.count(6), 1);
        x.hours(1);
        Check.due("then one", x.count(6), 0);
    }

    static void promise08_thereAlreadyStaysAsItWas() {
        LogRiver x = jammed(1);
        x.crew(-1, 0);
        x.hours(1);
        Check.due("crew(0, 0)", x.crew(0, 0), 0);
        x.hours(1);
        Check.due("it came no later", x.count(6), 0);
        LogRiver y = jammed(2);
        y.crew(-1, 0);
        y.hours(2);
        y.crew(0, 0);
        y.hours(1);
        Check.due("it is not fresh either", y.count(6), 1);
    }

    static void promise08_goesAndComesBack() {
        LogRiver x = jammed(1);
        x.crew(-1, 0);
        x.hours(1);
        x.crew(0, 1);
        x.crew(0, 0);
        x.hours(1);
        Check.due("it came anew", x.count(6), 1);
        x.hours(1);
        Check.due("and waited", x.count(6), 0);
    }

    static void promise08_oneReachAtATime() {
        LogRiver x = jammed(1);
        x.crew(-1, 0);
        x.crew(0, 1);
        x.hours(3);
        Check.due("it isn't in 0 any more", x.count(6), 1);
        Check.due("nor does it know", x.count(7), 0);
    }

    static void promise08_moreCrewsThanJams() {
        LogRiver x = jammed(1);
        x.crew(-1, 0);
        x.crew(-1, 0);
        x.hours(2);
        Check.due("freed by the first", x.count(6), 0);
        x.melt(0, 0);
        x.hours(1);
        Check.due("the second isn't tired, and frees it anew", x.count(6), 0);
        x.hours(1);
        Check.due("then the first again", x.count(6), 0);
    }
}
