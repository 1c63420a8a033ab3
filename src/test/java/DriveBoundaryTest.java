/** The boundaries that promises 12 to 14 and 17 to 19, and part 3 of the Terms, name: logs, cells, what an hour does. */
public final class DriveBoundaryTest {
    private static final int LEAST = Boundaries.LEAST;
    private static final int GREATEST = Boundaries.GREATEST;

    public static void main(String[] args) {
        Boundaries.run(DriveBoundaryTest.class);
    }

    // ---- promise 12: cut

    private static void isNoLog(int mark, int size, int stump) {
        Boundaries.refused("cut(" + mark + ", " + size + ", " + stump + ")", x -> x.cut(mark, size, stump), -1);
    }

    private static void isLog(int mark, int size, int stump) {
        LogRiver x = new LogRiver();
        Check.due("cut(" + mark + ", " + size + ", " + stump + ")", x.cut(mark, size, stump), 0);
        Check.due("MARK", x.log(0, 0), mark);
        Check.due("SIZE", x.log(0, 1), size);
        Check.due("STUMP", x.log(0, 2), stump);
        Check.due("on the BANK", x.log(0, 3), 0);
    }

    static void promise12_markTooSmall() {
        isNoLog(-1, 1, 0);
        isNoLog(LEAST, 1, 0);
    }

    static void promise12_markSmallest() {
        isLog(0, 5, 5);
    }

    static void promise12_markLargest() {
        isLog(15, 5, 5);
    }

    static void promise12_markTooLarge() {
        isNoLog(16, 1, 0);
        isNoLog(GREATEST, 1, 0);
    }

    static void promise12_sizeTooSmall() {
        isNoLog(0, 0, 0);
        isNoLog(0, -1, 0);
        isNoLog(0, LEAST, 0);
    }

    static void promise12_sizeSmallest() {
        isLog(5, 1, 5);
    }

    static void promise12_sizeLargest() {
        isLog(5, 9, 5);
    }

    static void promise12_sizeTooLarge() {
        isNoLog(0, 10, 0);
        isNoLog(0, GREATEST, 0);
    }

    static void promise12_stumpTooSmall() {
        isNoLog(0, 1, -1);
        isNoLog(0, 1, LEAST);
    }

    static void promise12_stumpSmallest() {
        isLog(5, 5, 0);
    }

    static void promise12_stumpLargest() {
        isLog(5, 5, 1000000);
    }

    static void promise12_stumpTooLarge() {
        isNoLog(0, 1, 1000001);
        isNoLog(0, 1, GREATEST);
    }

    static void promise12_the400th() {
        LogRiver x = new LogRiver();
        for (int log = 0; log < 400; log++) {
            Check.due("log " + log, x.cut(log % 16, 1 + log % 9, log), log);
        }
        Check.due("count(2)", x.count(2), 400);
        Check.due("STUMP of 399", x.log(399, 2), 399);
    }

    static void promise12_the401st() {
        LogRiver x = new LogRiver();
        for (int log = 0; log < 400; log++) {
            x.cut(0, 1, 0);
        }
        Check.due("cut", x.cut(0, 1, 0), -1);
        Check.due("cut", x.cut(15, 9, 7), -1);
        Check.due("count(2)", x.count(2), 400);
        Check.noElement("log(400, 0)", () -> x.log(400, 0));
    }

    static void promise12_onesAtSeaCountStill() {
        LogRiver x = Boundaries.oneReach(1, 1);
        x.melt(0, 100);
        Boundaries.letGo(x, 1, 0, 1, 0, 0);
        x.hours(1);
        Check.due("at SEA", x.log(0, 3), 4);
        for (int log = 1; log < 400; log++) {
            x.cut(0, 1, 0);
        }
        Check.due("the 401st of all", x.cut(0, 1, 0), -1);
    }

    static void promise12_refusedTakesNoNumber() {
        LogRiver x = new LogRiver();
        x.cut(16, 1, 0);
        Check.due("the first", x.cut(0, 1, 0), 0);
        x.cut(0, 10, 0);
        Check.due("the second", x.cut(0, 1, 0), 1);
    }

    // ---- promise 13: let

    static void promise13_noSuchLog() {
        for (int log : new int[] {-1, 6, 400, LEAST, GREATEST}) {
            Boundaries.refusedByNoElement("let(" + log + ", 0, 0)", x -> x.let(log, 0, 0));
        }
    }

    static void promise13_noSuchReach() {
        for (int reach : new int[] {-1, 2, 10, LEAST, GREATEST}) {
            Boundaries.refusedByNoElement("let(5, " + reach + ", 0)", x -> x.let(5, reach, 0));
            Boundaries.refusedByNoElement("let(4, " + reach + ", 0)", x -> x.let(4, reach, 0));
        }
    }

    static void promise13_noSuchCell() {
        for (int cell : new int[] {-1, 2, 12, LEAST, GREATEST}) {
            Boundaries.refusedByNoElement("let(5, 0, " + cell + ")", x -> x.let(5, 0, cell));
            Boundaries.refusedByNoElement("let(4, 0, " + cell + ")", x -> x.let(4, 0, cell));
        }
    }

    static void promise13_firstAndLastCell() {
        LogRiver x = Boundaries.oneReach(12, 1);
        Check.due("CELL 0", Boundaries.letGo(x, 1, 0, 9, 0, 0), 1);
        Check.due("CELL 11", Boundaries.letGo(x, 1, 0, 9, 0, 11), 1);
        Check.due("its CELL", x.log(0, 5), 0);
        Check.due("its CELL", x.log(1, 5), 11);
    }

    static void promise13_notOnTheBank() {
        String[] places = {"SAWN", "at SEA", "SUNK", "in a HEAP", "AFLOAT"};
        int[] numbers = {3, 4, 5, 2, 1};
        LogRiver busy = new LogRiver();
        Boundaries.makeBusy(busy);
        for (int k = 0; k < places.length; k++) {
            int log = k;
            Check.due("it is " + places[k], busy.log(k, 3), numbers[k]);
            Boundaries.refused("let one that is " + places[k], x -> x.let(log, 0, 0), 1);
        }
    }

    static void promise13_notOnTheBankIntoAFullCell() {
        LogRiver x = Boundaries.oneReach(1, 1);
        Boundaries.letGo(x, 1, 0, 1, 0, 0);
        Check.due("the same again", x.let(0, 0, 0), 1);
        Check.due("it is there once", x.cell(0, 0, 0), 1);
    }

    static void promise13_notOnTheBankAndBarred() {
        LogRiver x = Boundaries.oneReach(1, 2);
        Boundaries.letGo(x, 1, 0, 1, 0, 0);
        Check.tell(x, "bar 1;", 0);
        Check.due("1 comes first", x.let(0, 0, 0), 1);
    }

    static void promise13_barred() {
        Boundaries.refused("let of mark 7", x -> x.let(5, 0, 0), 2);
    }

    static void promise13_barredIntoAFullCell() {
        LogRiver x = Boundaries.oneReach(1, 1);
        Boundaries.letGo(x, 1, 0, 1, 0, 0);
        Check.tell(x, "bar 1;", 0);
        x.cut(0, 1, 0);
        Check.due("2 comes first", x.let(1, 0, 0), 2);
    }

    static void promise13_barredInOneReachAlone() {
        LogRiver x = Boundaries.oneReach(1, 1);
        x.reach(0, 1, 1, 0);
        Check.tell(x, "bar reach = 1;", 0);
        x.cut(0, 1, 0);
        Check.due("REACH 1", x.let(0, 1, 0), 2);
        Check.due("REACH 0", x.let(0, 0, 0), 0);
    }

    static void promise13_barredFromAnHourToAnother() {
        LogRiver x = Boundaries.oneReach(1, 1);
        Check.tell(x, "bar 3 < hour and hour < 6;", 0);
        x.cut(0, 1, 0);
        x.cut(0, 1, 0);
        x.hours(4);
        Check.due("HOUR 4", x.let(0, 0, 0), 2);
        x.hours(1);
        Check.due("HOUR 5", x.let(0, 0, 0), 2);
        x.hours(1);
        Check.due("HOUR 6", x.let(0, 0, 0), 0);
        LogRiver y = Boundaries.oneReach(1, 1);
        Check.tell(y, "bar 3 < hour and hour < 6;", 0);
        y.cut(0, 1, 0);
        y.hours(3);
        Check.due("HOUR 3", y.let(0, 0, 0), 0);
    }

    static void promise13_barredLogsThatFloatGoOn() {
        LogRiver x = Boundaries.oneReach(2, 1);
        x.reach(0, 1, 1, 0);
        x.melt(1, 100);
        Boundaries.letGo(x, 1, 0, 9, 1, 0);
        Check.tell(x, "bar 1;", 0);
        x.hours(1);
        Check.due("into a REACH where it is BARRED", x.log(0, 4), 0);
    }

    static void promise13_cellOneBelowCarry() {
        LogRiver x = Boundaries.oneReach(1, 3);
        Boundaries.letGo(x, 2, 0, 1, 0, 0);
        x.cut(0, 1, 0);
        Check.due("the third", x.let(2, 0, 0), 0);
        Check.due("how many", x.cell(0, 0, 0), 3);
    }

    static void promise13_cellHoldsCarry() {
        Boundaries.refused("the fourth", x -> {
            x.reach(-1, 1, 3, 0);
            Boundaries.letGo(x, 3, 0, 1, 0, 0);
            x.cut(0, 1, 0);
        }, x -> x.let(3, 0, 0), "3");
    }

    static void promise13_cellIsJammedAndEmpty() {
        Boundaries.refused("let", x -> {
            Boundaries.makeBusy(x);
            Check.due("how many", x.cell(1, 0, 0), 0);
            Check.due("JAMMED", x.cell(1, 0, 1), 1);
            x.cut(0, 1, 0);
        }, x -> x.let(6, 1, 0), "3");
    }

    static void promise13_cellIsJammedNoMore() {
        LogRiver x = RiverBoundaryTest.jammed(1);
        x.crew(-1, 0);
        x.hours(2);
        x.cut(0, 1, 0);
        Check.due("full still", x.let(1, 0, 0), 3);
        x.melt(0, 100);
        x.hours(1);
        Check.due("empty", x.let(1, 0, 0), 0);
    }

    static void promise13_refusedCanBeLetLater() {
        LogRiver x = Boundaries.oneReach(2, 1);
        Boundaries.letGo(x, 1, 0, 1, 0, 0);
        x.cut(0, 1, 0);
        Check.due("full", x.let(1, 0, 0), 3);
        Check.due("on the BANK", x.log(1, 3), 0);
        Check.due("elsewhere", x.let(1, 0, 1), 0);
    }

    // ---- promise 14: hours, the call

    static void promise14_nTooSmall() {
        Boundaries.refusedByBadArgument("hours(-1)", x -> x.hours(-1));
        Boundaries.refusedByBadArgument("hours(the least)", x -> x.hours(LEAST));
    }

    static void promise14_nTooLarge() {
        Boundaries.refusedByBadArgument("hours(201)", x -> x.hours(201));
        Boundaries.refusedByBadArgument("hours(the greatest)", x -> x.hours(GREATEST));
    }

    static void promise14_nSmallest() {
        Boundaries.refused("hours(0)", x -> x.hours(0), 24);
    }

    static void promise14_nLargest() {
        Check.due("hours(200)", new LogRiver().hours(200), 200);
    }

    private static void passTo19990(LogRiver x) {
        Boundaries.pass(x, 19990);
        Check.due("the hour", x.count(0), 19990);
    }

    static void promise14_just20000() {
        LogRiver x = new LogRiver();
        passTo19990(x);
        Check.due("hours(10)", x.hours(10), 20000);
        Check.due("hours(0)", x.hours(0), 20000);
    }

    static void promise14_above20000() {
        Boundaries.refused("hours(11)", DriveBoundaryTest::passTo19990, x -> x.hours(11), "throws.IllegalArgumentException");
        Boundaries.refused("hours(200)", DriveBoundaryTest::passTo19990, x -> x.hours(200), "throws.IllegalArgumentException");
        LogRiver x = new LogRiver();
        Boundaries.pass(x, 20000);
        Check.badArgument("hours(1)", () -> x.hours(1));
        Check.badArgument("hours(-1)", () -> x.hours(-1));
        Check.due("the hour", x.count(0), 20000);
    }

    static void promise14_oneByOneOrAtOnce() {
        for (int n = 0; n <= 30; n++) {
            LogRiver x = new LogRiver();
            LogRiver y = new LogRiver();
            Boundaries.makeBusy(x);
            Boundaries.makeBusy(y);
            x.hours(n);
            for (int k = 0; k < n; k++) {
                y.hours(1);
            }
            Check.due(n + " hours", Boundaries.seen(x), Boundaries.seen(y));
        }
    }

    // ---- promise 14: (a) water

    static void promise14_waterOfReachesThatMeet() {
        LogRiver x = Boundaries.oneReach(1, 1);
        x.reach(0, 1, 1, 0);
        x.reach(0, 1, 1, 0);
        x.reach(2, 1, 1, 0);
        for (int r = 0; r < 4; r++) {
            x.melt(r, 1 << r);
        }
        x.hours(1);
        Check.due("FLOW of all in the first HOUR", x.water(0, 0), 15);
        Check.due("FLOW of 1", x.water(1, 0), 2);
        Check.due("FLOW of 2", x.water(2, 0), 12);
        Check.due("FLOW of 3", x.water(3, 0), 8);
    }

    static void promise14_flowBehindADamIsIn() {
        LogRiver x = Boundaries.oneReach(1, 1);
        x.reach(0, 1, 1, 0);
        x.dam(1, 1000);
        x.melt(1, 70);
        x.hours(1);
        Check.due("FLOW above the DAM", x.water(1, 0), 70);
        Check.due("OUT", x.water(1, 1), 0);
        Check.due("FLOW below it", x.water(0, 0), 0);
    }

    // ---- promise 14: (b) logs move

    /** In which cell of a long reach a log of cell 0 is after an hour of this FLOW. */
    private static int cellAfterAFlowOf(int flow) {
        LogRiver x = Boundaries.oneReach(12, 1);
        x.reach(0, 1, 1, 0);
        x.melt(0, Math.min(flow, 500));
        x.melt(1, flow - Math.min(flow, 500));
        Boundaries.letGo(x, 1, 0, 9, 0, 0);
        x.hours(1);
        Check.due("FLOW", x.water(0, 0), flow);
        return x.log(0, 5);
    }

    static void promise14_speedByFlow() {
        int[] flows = {0, 1, 99, 100, 101, 199, 200, 299, 300, 399, 400, 499, 500, 599, 600};
        int[] steps = {0, 0, 0, 1, 1, 1, 2, 2, 3, 3, 4, 4, 5, 5, 6};
        for (int k = 0; k < flows.length; k++) {
            Check.due("steps by a FLOW of " + flows[k], cellAfterAFlowOf(flows[k]), steps[k]);
        }
    }

    static void promise14_speedAtMostSix() {
        Check.due("a FLOW of 699", cellAfterAFlowOf(699), 6);
        Check.due("a FLOW of 700", cellAfterAFlowOf(700), 6);
        Check.due("a FLOW of 1000", cellAfterAFlowOf(1000), 6);
    }

    static void promise14_stepOutOfTheLastCell() {
        LogRiver x = Boundaries.oneReach(5, 1);
        x.melt(0, 400);
        Boundaries.letGo(x, 1, 0, 9, 0, 0);
        x.hours(1);
        Check.due("4 steps lead into the last CELL", x.log(0, 5), 4);
        LogRiver y = Boundaries.oneReach(5, 1);
        y.melt(0, 500);
        Boundaries.letGo(y, 1, 0, 9, 0, 0);
        y.hours(1);
        Check.due("5 steps lead to SEA", y.log(0, 3), 4);
    }

    static void promise14_onceAnHour() {
        LogRiver x = Boundaries.oneReach(3, 20);
        x.melt(0, 100);
        for (int c = 0; c < 3; c++) {
            Boundaries.letGo(x, 3, 0, 9, 0, c);
        }
        x.hours(1);
        Check.due("CELL 0", x.cell(0, 0, 0), 0);
        Check.due("CELL 1", x.cell(0, 1, 0), 3);
        Check.due("CELL 2", x.cell(0, 2, 0), 3);
        Check.due("its first", x.inCell(0, 2, 0), 3);
        Check.due("its last", x.inCell(0, 2, 2), 5);
    }

    static void promise14_intoACellThatHoldsCarry() {
        LogRiver x = Boundaries.oneReach(3, 1);
        x.dam(0, 1000);
        x.melt(0, 500);
        Boundaries.letGo(x, 1, 0, 9, 0, 2);
        Boundaries.letGo(x, 1, 0, 9, 0, 0);
        x.hours(1);
        Check.due("the DAM holds the one ahead", x.log(0, 5), 2);
        Check.due("the other goes as far as it can", x.log(1, 5), 1);
        x.hours(1);
        Check.due("and stays there", x.log(1, 5), 1);
    }

    static void promise14_fillsUpToCarry() {
        LogRiver x = Boundaries.oneReach(2, 2);
        x.dam(0, 1000);
        x.melt(0, 100);
        Boundaries.letGo(x, 1, 0, 9, 0, 1);
        Boundaries.letGo(x, 2, 0, 9, 0, 0);
        x.hours(1);
        Check.due("one more is CARRY", x.cell(0, 1, 0), 2);
        Check.due("the first one of the two", x.inCell(0, 1, 1), 1);
        Check.due("the second stays", x.inCell(0, 0, 0), 2);
    }

    static void promise14_placeThatIsLeftInTheSameHour() {
        LogRiver x = Boundaries.oneReach(3, 1);
        x.melt(0, 100);
        for (int c = 0; c < 3; c++) {
            Boundaries.letGo(x, 1, 0, 9, 0, c);
        }
        x.hours(1);
        Check.due("the last one is at SEA", x.log(2, 3), 4);
        Check.due("its CELL is taken", x.log(1, 5), 2);
        Check.due("and so on", x.log(0, 5), 1);
    }

    static void promise14_firstOfACellCannotSecondCan() {
        LogRiver x = Boundaries.oneReach(1, 2);
        x.melt(0, 100);
        x.boom(0, 1, 1);
        Boundaries.letGo(x, 1, 0, 9, 0, 0);
        x.hours(1);
        Boundaries.letGo(x, 1, 0, 9, 0, 0);
        Boundaries.letGo(x, 1, 5, 9, 0, 0);
        x.hours(1);
        Check.due("its HEAP is full", x.log(1, 3), 1);
        Check.due("this one isn't caught", x.log(2, 3), 4);
        Check.due("the CELL", x.inCell(0, 0, 0), 1);
    }

    static void promise14_fromAndIntoAJammedCell() {
        LogRiver x = RiverBoundaryTest.jammed(2);
        x.reach(0, 1, 1, 0);
        x.melt(0, 500);
        Boundaries.letGo(x, 1, 0, 9, 2, 0);
        x.melt(2, 100);
        x.hours(1);
        Check.due("from the lower one", x.log(1, 5), 1);
        Check.due("from the upper one", x.log(0, 5), 0);
        Check.due("into the first CELL of NEXT", x.log(2, 4), 2);
    }

    static void promise14_intoAnotherReachIsOver() {
        LogRiver x = Boundaries.oneReach(5, 1);
        x.reach(0, 1, 1, 0);
        x.melt(1, 500);
        Boundaries.letGo(x, 1, 0, 9, 1, 0);
        x.hours(1);
        Check.due("its REACH", x.log(0, 4), 0);
        Check.due("its CELL", x.log(0, 5), 0);
    }

    static void promise14_intoAFullReach() {
        LogRiver x = Boundaries.oneReach(1, 1);
        x.reach(0, 2, 1, 0);
        x.dam(0, 100000);
        x.melt(1, 500);
        Boundaries.letGo(x, 1, 0, 9, 0, 0);
        Boundaries.letGo(x, 1, 0, 9, 1, 0);
        x.hours(1);
        Check.due("as far as the last CELL", x.log(1, 4), 1);
        Check.due("its CELL", x.log(1, 5), 1);
    }

    static void promise14_fullReachInOrderOfReaches() {
        LogRiver x = Boundaries.oneReach(1, 1);
        x.reach(0, 1, 1, 0);
        x.reach(0, 1, 1, 0);
        x.melt(1, 100);
        x.melt(2, 100);
        Boundaries.letGo(x, 1, 0, 9, 2, 0);
        Boundaries.letGo(x, 1, 0, 9, 1, 0);
        x.hours(1);
        Check.due("the one of REACH 1 is first", x.log(1, 4), 0);
        Check.due("the one of REACH 2 stays", x.log(0, 4), 2);
    }

    /** Where a log is that lies at a dam whose OUT is this. */
    private static int placeByAnOutOf(int out) {
        LogRiver x = Boundaries.oneReach(1, 1);
        x.dam(0, 100000);
        x.gate(0, out);
        x.melt(0, 100);
        Boundaries.letGo(x, 1, 0, 9, 0, 0);
        x.hours(1);
        Check.due("OUT", x.water(0, 1), out);
        return x.log(0, 3);
    }

    static void promise14_outBelow50() {
        Check.due("OUT 0", placeByAnOutOf(0), 1);
        Check.due("OUT 49", placeByAnOutOf(49), 1);
    }

    static void promise14_out50() {
        Check.due("OUT 50", placeByAnOutOf(50), 4);
        Check.due("OUT 51", placeByAnOutOf(51), 4);
    }

    static void promise14_outBySpillAlone() {
        for (int spilt = 49; spilt <= 50; spilt++) {
            LogRiver x = Boundaries.oneReach(1, 1);
            x.dam(0, 100);
            x.melt(0, 100 + spilt);
            Boundaries.letGo(x, 1, 0, 9, 0, 0);
            x.hours(1);
            Check.due("OUT", x.water(0, 1), spilt);
            Check.due("where it is", x.log(0, 3), spilt == 50 ? 4 : 1);
        }
    }

    static void promise14_outOf50WithoutSpeed() {
        LogRiver x = Boundaries.oneReach(1, 1);
        x.dam(0, 0);
        x.melt(0, 99);
        Boundaries.letGo(x, 1, 0, 9, 0, 0);
        x.hours(1);
        Check.due("OUT 99, but no step", x.log(0, 3), 1);
    }

    static void promise14_smallOutWithoutADam() {
        LogRiver x = Boundaries.oneReach(1, 1);
        x.dam(0, 0);
        x.reach(-1, 1, 1, 0);
        x.melt(1, 100);
        Boundaries.letGo(x, 1, 0, 9, 1, 0);
        x.hours(1);
        Check.due("another REACH's DAM doesn't count", x.log(0, 3), 4);
    }

    static void promise14_heapFull() {
        LogRiver x = Boundaries.catching(2);
        Boundaries.letGo(x, 3, 0, 9, 0, 0);
        x.hours(1);
        Check.due("HEAP", x.heap(0, -1), 2);
        Check.due("the third stays", x.log(2, 3), 1);
        x.hours(5);
        Check.due("and stays", x.log(2, 3), 1);
        Check.due("one that stays pays none", x.paid(0), 0);
    }

    static void promise14_heapFullTillOneIsSawn() {
        LogRiver x = Boundaries.catching(1);
        Check.tell(x, "toll 4;", 0);
        Boundaries.letGo(x, 2, 0, 9, 0, 0);
        x.order(0, 0, 1, 1);
        x.hours(1);
        Check.due("SAWN in the HOUR in which it came", x.log(0, 3), 3);
        Check.due("the other came ahead of that", x.log(1, 3), 1);
        Check.due("paid once", x.paid(0), 4);
        x.hours(1);
        Check.due("now there is room", x.log(1, 3), 2);
        Check.due("paid twice", x.paid(0), 8);
    }

    static void promise14_boomOnTheWayIsAtTheLastCell() {
        LogRiver x = Boundaries.oneReach(3, 1);
        x.boom(0, -1, 1);
        x.melt(0, 200);
        Boundaries.letGo(x, 1, 0, 9, 0, 0);
        x.hours(1);
        Check.due("2 steps", x.log(0, 5), 2);
        x.hours(1);
        Check.due("one more", x.log(0, 3), 2);
    }

    // ---- promise 14: (c) jams

    private static int jammedBy(int carry, int logs, int jam, int flow) {
        LogRiver x = new LogRiver();
        x.reach(-1, 1, carry, jam);
        x.melt(0, flow);
        Boundaries.letGo(x, logs, 0, 9, 0, 0);
        x.hours(1);
        return x.cell(0, 0, 1);
    }

    static void promise14_flowJustBelowJam() {
        Check.due("FLOW 49 of 50", jammedBy(2, 2, 50, 49), 1);
        Check.due("FLOW 0 of 1", jammedBy(2, 2, 1, 0), 1);
    }

    static void promise14_flowJustJam() {
        Check.due("FLOW 50 of 50", jammedBy(2, 2, 50, 50), 0);
        Check.due("FLOW 0 of 0", jammedBy(2, 2, 0, 0), 0);
    }

    static void promise14_cellJustBelowCarry() {
        Check.due("19 of 20", jammedBy(20, 19, 1000, 0), 0);
        Check.due("0 of 1", jammedBy(1, 0, 1000, 0), 0);
    }

    static void promise14_cellJustCarry() {
        Check.due("20 of 20", jammedBy(20, 20, 1000, 0), 1);
        Check.due("1 of 1", jammedBy(1, 1, 1000, 0), 1);
    }

    static void promise14_filledInTheSameHour() {
        LogRiver x = new LogRiver();
        x.reach(-1, 2, 1, 150);
        x.melt(0, 100);
        Boundaries.letGo(x, 1, 0, 9, 0, 0);
        x.hours(1);
        Check.due("the CELL that it left", x.cell(0, 0, 1), 0);
        Check.due("the CELL into which it came", x.cell(0, 1, 1), 1);
    }

    static void promise14_jamStaysWithHighWater() {
        LogRiver x = RiverBoundaryTest.jammed(1);
        x.melt(0, 500);
        x.hours(50);
        Check.due("JAMMED", x.cell(0, 0, 1), 1);
        Check.due("its log", x.log(0, 3), 1);
    }

    static void promise14_jamStaysWhenAllHaveSunk() {
        LogRiver x = RiverBoundaryTest.jammed(1);
        Boundaries.pass(x, 24 * 9);
        Check.due("SUNK", x.log(0, 3), 5);
        Check.due("how many", x.cell(0, 0, 0), 0);
        Check.due("JAMMED", x.cell(0, 0, 1), 1);
    }

    // ---- promise 14: (d), (e) crews, known jams

    static void promise14_lowestIsFreed() {
        LogRiver x = RiverBoundaryTest.jammed(12);
        x.crew(-1, 0);
        x.hours(2);
        Check.due("CELL 11", x.cell(0, 11, 1), 0);
        Check.due("CELL 10", x.cell(0, 10, 1), 1);
        Check.due("all others", x.count(6), 11);
    }

    static void promise14_jammedAndFreedInOneHour() {
        LogRiver x = new LogRiver();
        x.reach(-1, 1, 1, 50);
        x.crew(-1, 0);
        x.hours(1);
        Boundaries.letGo(x, 1, 0, 9, 0, 0);
        x.hours(1);
        Check.due("JAMMED, and freed by one that was there", x.cell(0, 0, 1), 0);
        Check.due("not KNOWN", x.cell(0, 0, 2), 0);
        x.hours(1);
        Check.due("JAMMED anew, and the CREW rests", x.cell(0, 0, 1), 1);
        Check.due("KNOWN", x.cell(0, 0, 2), 1);
    }

    static void promise14_nothingToFreeIsNoRest() {
        LogRiver x = new LogRiver();
        x.reach(-1, 1, 1, 50);
        x.crew(-1, 0);
        x.hours(7);
        Boundaries.letGo(x, 1, 0, 9, 0, 0);
        x.hours(1);
        Check.due("freed in the first HOUR", x.cell(0, 0, 1), 0);
    }

    static void promise14_knownFromTheHourOfTheWatch() {
        LogRiver x = RiverBoundaryTest.jammed(1);
        x.hours(5);
        Check.due("none saw it", x.count(7), 0);
        x.watch(0, true);
        x.hours(1);
        Check.due("KNOWN", x.count(7), 1);
    }

    static void promise14_knownUntilFreed() {
        LogRiver x = RiverBoundaryTest.jammed(1);
        x.watch(0, true);
        x.hours(1);
        x.watch(0, false);
        x.hours(20);
        Check.due("KNOWN still", x.count(7), 1);
        x.crew(-1, 0);
        x.hours(1);
        Check.due("KNOWN still", x.count(7), 1);
        x.hours(1);
        Check.due("freed", x.count(7), 0);
    }

    // ---- promise 14: (f) sinking

    static void promise14_ageJustBelow24TimesSize() {
        for (int size = 1; size <= 9; size++) {
            LogRiver x = Boundaries.oneReach(1, 1);
            Boundaries.letGo(x, 1, 0, size, 0, 0);
            Boundaries.pass(x, 24 * size - 1);
            Check.due("AFLOAT, size " + size, x.log(0, 3), 1);
            Check.due("its age", x.log(0, 6), 24 * size - 1);
        }
    }

    static void promise14_ageJust24TimesSize() {
        for (int size = 1; size <= 9; size++) {
            LogRiver x = Boundaries.oneReach(1, 1);
            Boundaries.letGo(x, 1, 0, size, 0, 0);
            Boundaries.pass(x, 24 * size);
            Check.due("SUNK, size " + size, x.log(0, 3), 5);
            Check.due("its age", x.log(0, 6), 24 * size);
            Check.due("its CELL is empty", x.cell(0, 0, 0), 0);
        }
    }

    static void promise14_reachesTheSeaInItsLastHour() {
        LogRiver x = Boundaries.oneReach(1, 1);
        Boundaries.letGo(x, 1, 0, 1, 0, 0);
        x.hours(23);
        x.melt(0, 100);
        x.hours(1);
        Check.due("at SEA", x.log(0, 3), 4);
        Check.due("its age", x.log(0, 6), 23);
    }

    static void promise14_sinksInTheCellWhereItCame() {
        LogRiver x = Boundaries.oneReach(3, 1);
        Boundaries.letGo(x, 1, 0, 1, 0, 0);
        x.hours(23);
        x.melt(0, 100);
        x.hours(1);
        Check.due("SUNK", x.log(0, 3), 5);
        Check.due("its CELL", x.log(0, 5), 1);
    }

    static void promise14_severalSinkAtOnce() {
        LogRiver x = Boundaries.oneReach(1, 5);
        int[] sizes = {1, 1, 2, 1, 2};
        for (int size : sizes) {
            x.let(x.cut(0, size, 0), 0, 0);
        }
        x.hours(24);
        Check.due("how many are left", x.cell(0, 0, 0), 2);
        Check.due("the first", x.inCell(0, 0, 0), 2);
        Check.due("the second", x.inCell(0, 0, 1), 4);
        Check.due("all of SIZE 1 are SUNK", x.log(0, 3) + x.log(1, 3) + x.log(3, 3), 15);
    }

    static void promise14_jamsInTheHourInWhichItSinks() {
        LogRiver x = new LogRiver();
        x.reach(-1, 1, 1, 50);
        x.melt(0, 60);
        Boundaries.letGo(x, 1, 0, 1, 0, 0);
        x.hours(23);
        Check.due("not JAMMED", x.cell(0, 0, 1), 0);
        x.melt(0, 0);
        x.hours(1);
        Check.due("SUNK", x.log(0, 3), 5);
        Check.due("JAMMED ahead of that", x.cell(0, 0, 1), 1);
    }

    // ---- promise 17: log

    static void promise17_noSuchLog() {
        for (int log : new int[] {-1, 6, 400, LEAST, GREATEST}) {
            Boundaries.refusedByNoElement("log(" + log + ", 0)", x -> x.log(log, 0));
            Boundaries.refusedByNoElement("log(" + log + ", 8)", x -> x.log(log, 8));
        }
    }

    static void promise17_noSuchWhat() {
        for (int what : new int[] {-1, 8, LEAST, GREATEST}) {
            Boundaries.refusedByNoElement("log(0, " + what + ")", x -> x.log(0, what));
        }
    }

    private static void is(int log, int where, int reach, int cell, int age, int board) {
        LogRiver x = new LogRiver();
        Boundaries.makeBusy(x);
        int[] want = {where, reach, cell, age, board};
        for (int k = 0; k < want.length; k++) {
            Check.due("log(" + log + ", " + (3 + k) + ")", x.log(log, 3 + k), want[k]);
        }
    }

    static void promise17_onTheBank() {
        is(5, 0, -1, -1, 0, -1);
    }

    static void promise17_afloat() {
        is(4, 1, 1, 1, 0, -1);
    }

    static void promise17_inAHeap() {
        is(3, 2, 0, -1, 0, -1);
    }

    static void promise17_sawn() {
        is(0, 3, 0, -1, 0, 0);
    }

    static void promise17_atSea() {
        is(1, 4, -1, -1, 0, -1);
    }

    static void promise17_sunk() {
        is(2, 5, 1, 0, 24, -1);
    }

    static void promise17_ageStandsStillOnceItIsNotAfloat() {
        LogRiver x = Boundaries.oneReach(1, 5);
        x.boom(0, 1, 5);
        x.cut(0, 9, 0);
        x.cut(1, 9, 0);
        x.cut(2, 9, 0);
        x.hours(3);
        x.let(0, 0, 0);
        x.let(1, 0, 0);
        x.hours(5);
        x.melt(0, 100);
        x.hours(6);
        Check.due("in a HEAP", x.log(0, 6), 5);
        Check.due("at SEA", x.log(1, 6), 5);
        Check.due("on the BANK", x.log(2, 6), 0);
    }

    static void promise17_firstBoardZero() {
        LogRiver x = Boundaries.catching(5);
        Boundaries.letGo(x, 2, 0, 9, 0, 0);
        x.order(0, 0, 1, 2);
        Check.due("NONE at first", x.log(0, 7), -1);
        x.hours(1);
        Check.due("the first BOARD of all", x.log(0, 7), 0);
        Check.due("the next log's", x.log(1, 7), 9);
    }

    // ---- promise 18: cell

    static void promise18_noSuchReach() {
        for (int reach : new int[] {-1, 2, 10, LEAST, GREATEST}) {
            Boundaries.refusedByNoElement("cell(" + reach + ", 0, 0)", x -> x.cell(reach, 0, 0));
        }
    }

    static void promise18_noSuchCell() {
        for (int cell : new int[] {-1, 2, 12, LEAST, GREATEST}) {
            Boundaries.refusedByNoElement("cell(0, " + cell + ", 0)", x -> x.cell(0, cell, 0));
        }
    }

    static void promise18_noSuchWhat() {
        for (int what : new int[] {-1, 3, LEAST, GREATEST}) {
            Boundaries.refusedByNoElement("cell(0, 0, " + what + ")", x -> x.cell(0, 0, what));
        }
    }

    static void promise18_emptyCell() {
        LogRiver x = Boundaries.oneReach(1, 1);
        for (int what = 0; what < 3; what++) {
            Check.due("cell(0, 0, " + what + ")", x.cell(0, 0, what), 0);
        }
    }

    static void promise18_fullCell() {
        LogRiver x = Boundaries.oneReach(12, 20);
        Boundaries.letGo(x, 25, 0, 9, 0, 11);
        Check.due("cell(0, 11, 0)", x.cell(0, 11, 0), 20);
        Check.due("cell(0, 10, 0)", x.cell(0, 10, 0), 0);
        Check.due("full is not JAMMED", x.cell(0, 11, 1), 0);
    }

    static void promise18_jammedNotKnown() {
        LogRiver x = RiverBoundaryTest.jammed(1);
        Check.due("JAMMED", x.cell(0, 0, 1), 1);
        Check.due("KNOWN", x.cell(0, 0, 2), 0);
    }

    static void promise18_watchedNotJammed() {
        LogRiver x = Boundaries.oneReach(1, 1);
        x.watch(0, true);
        Boundaries.letGo(x, 1, 0, 9, 0, 0);
        x.hours(1);
        Check.due("JAMMED", x.cell(0, 0, 1), 0);
        Check.due("KNOWN", x.cell(0, 0, 2), 0);
    }

    // ---- promise 19: inCell

    static void promise19_noSuchReach() {
        for (int reach : new int[] {-1, 2, 10, LEAST, GREATEST}) {
            Boundaries.refusedByNoElement("inCell(" + reach + ", 0, 0)", x -> x.inCell(reach, 0, 0));
        }
    }

    static void promise19_noSuchCell() {
        for (int cell : new int[] {-1, 2, 12, LEAST, GREATEST}) {
            Boundaries.refusedByNoElement("inCell(0, " + cell + ", 0)", x -> x.inCell(0, cell, 0));
            Boundaries.refusedByNoElement("inCell(0, " + cell + ", -1)", x -> x.inCell(0, cell, -1));
        }
    }

    static void promise19_emptyCell() {
        LogRiver x = Boundaries.oneReach(1, 1);
        for (int i : new int[] {0, 1, -1, LEAST, GREATEST}) {
            Check.due("inCell(0, 0, " + i + ")", x.inCell(0, 0, i), -1);
        }
    }

    static void promise19_iTooSmall() {
        LogRiver x = Boundaries.oneReach(1, 3);
        Boundaries.letGo(x, 3, 0, 9, 0, 0);
        Check.due("-1", x.inCell(0, 0, -1), -1);
        Check.due("the least", x.inCell(0, 0, LEAST), -1);
    }

    static void promise19_firstAndLastOfAFullCell() {
        LogRiver x = Boundaries.oneReach(1, 20);
        Boundaries.letGo(x, 20, 0, 9, 0, 0);
        Check.due("the first", x.inCell(0, 0, 0), 0);
        Check.due("the last", x.inCell(0, 0, 19), 19);
    }

    static void promise19_iTooLarge() {
        LogRiver x = Boundaries.oneReach(1, 20);
        Boundaries.letGo(x, 20, 0, 9, 0, 0);
        Check.due("20", x.inCell(0, 0, 20), -1);
        Check.due("the greatest", x.inCell(0, 0, GREATEST), -1);
    }

    static void promise19_orderOfComing() {
        LogRiver x = Boundaries.oneReach(2, 5);
        for (int log = 0; log < 4; log++) {
            x.cut(0, 9, 0);
        }
        x.dam(0, 1000);
        x.melt(0, 100);
        x.let(3, 0, 1);
        x.let(0, 0, 0);
        x.hours(1);
        x.let(2, 0, 1);
        x.let(1, 0, 0);
        x.hours(1);
        int[] want = {3, 0, 2, 1, -1};
        for (int i = 0; i < want.length; i++) {
            Check.due("inCell(0, 1, " + i + ")", x.inCell(0, 1, i), want[i]);
        }
    }
}
