/** Promises 12 to 14, 17 and 19: logs, how they are let go, and how an hour moves and sinks them. */
public final class DriveTest {
    public static void main(String[] args) {
        cut();
        let();
        letByLaw();
        hours();
        log();
        speed();
        orderInCell();
        fullCells();
        overIntoAnotherReach();
        dams();
        boomAheadOfDam();
        sinking();
        inCell();
        Check.finish();
    }

    private static void cut() {
        LogRiver x = new LogRiver();
        Check.due("mark -1", x.cut(-1, 1, 0), -1);
        Check.due("mark 16", x.cut(16, 1, 0), -1);
        Check.due("size 0", x.cut(0, 0, 0), -1);
        Check.due("size 10", x.cut(0, 10, 0), -1);
        Check.due("stump -1", x.cut(0, 1, -1), -1);
        Check.due("stump 1000001", x.cut(0, 1, 1000001), -1);
        Check.due("none of these", x.count(2), 0);
        Check.due("least", x.cut(0, 1, 0), 0);
        Check.due("most", x.cut(15, 9, 1000000), 1);
        for (int log = 2; log < 400; log++) {
            Check.due("log " + log, x.cut(1, 1, 1), log);
        }
        Check.due("the 401st", x.cut(1, 1, 1), -1);
        Check.due("count(2)", x.count(2), 400);
    }

    private static void let() {
        LogRiver x = new LogRiver();
        x.reach(-1, 2, 1, 0);
        x.cut(0, 1, 0);
        x.cut(0, 1, 0);
        Check.noElement("no such LOG", () -> x.let(2, 0, 0));
        Check.noElement("no such LOG", () -> x.let(-1, 0, 0));
        Check.noElement("no such REACH", () -> x.let(0, 1, 0));
        Check.noElement("no such REACH", () -> x.let(0, -1, 0));
        Check.noElement("no such CELL", () -> x.let(0, 0, 2));
        Check.noElement("no such CELL", () -> x.let(0, 0, -1));
        Check.due("let go", x.let(0, 0, 1), 0);
        Check.noElement("no such CELL, of a log that isn't on the BANK", () -> x.let(0, 0, 2));
        Check.due("it isn't on the BANK", x.let(0, 0, 0), 1);
        Check.due("the CELL holds CARRY", x.let(1, 0, 1), 3);
        Check.due("it is on the BANK still", x.log(1, 3), 0);
        Check.due("let go", x.let(1, 0, 0), 0);
    }

    private static void letByLaw() {
        LogRiver x = new LogRiver();
        x.reach(-1, 2, 1, 0);
        x.reach(0, 2, 1, 0);
        Check.tell(x, "toll 9; bar reach = 1 and size < 3; bar day = 1 and hour < 2; bar age; bar mark = 5;", 0);
        x.cut(0, 2, 0);
        x.cut(0, 3, 0);
        x.cut(0, 9, 0);
        x.cut(5, 9, 0);
        Check.due("BARRED there", x.let(0, 1, 0), 2);
        Check.due("it stays on the BANK", x.log(0, 3), 0);
        Check.due("not BARRED", x.let(1, 1, 0), 0);
        Check.due("not BARRED elsewhere", x.let(0, 0, 0), 0);
        Check.due("not on the BANK comes ahead of BARRED", x.let(0, 1, 0), 1);
        Check.due("BARRED comes ahead of a full CELL", x.let(3, 0, 0), 2);
        x.hours(24);
        Check.due("BARRED now", x.let(2, 0, 1), 2);
        x.hours(2);
        Check.due("not BARRED any more", x.let(2, 0, 1), 0);
    }

    private static void hours() {
        LogRiver x = new LogRiver();
        Check.badArgument("hours(-1)", () -> x.hours(-1));
        Check.badArgument("hours(201)", () -> x.hours(201));
        Check.badArgument("hours(the greatest)", () -> x.hours(Integer.MAX_VALUE));
        Check.due("hours(0)", x.hours(0), 0);
        for (int k = 1; k <= 99; k++) {
            Check.due("hours(200)", x.hours(200), 200 * k);
        }
        Check.due("hours(199)", x.hours(199), 19999);
        Check.badArgument("above 20000", () -> x.hours(2));
        Check.due("nothing changed", x.count(0), 19999);
        Check.due("20000", x.hours(1), 20000);
        Check.due("20000", x.hours(0), 20000);
        Check.badArgument("above 20000", () -> x.hours(1));
    }

    private static void state(LogRiver x, int log, int place, int reach, int cell, int age, int board) {
        int[] want = {place, reach, cell, age, board};
        for (int k = 0; k < 5; k++) {
            Check.due("log(" + log + ", " + (k + 3) + ")", x.log(log, k + 3), want[k]);
        }
    }

    private static void log() {
        LogRiver x = new LogRiver();
        x.reach(-1, 2, 20, 0);
        x.boom(0, 4, 100);
        x.cut(2, 3, 1234);
        x.cut(1, 1, 0);
        x.cut(1, 1, 0);
        Check.due("MARK", x.log(0, 0), 2);
        Check.due("SIZE", x.log(0, 1), 3);
        Check.due("STUMP", x.log(0, 2), 1234);
        state(x, 0, 0, -1, -1, 0, -1);
        x.let(0, 0, 0);
        x.let(1, 0, 0);
        x.let(2, 0, 1);
        state(x, 0, 1, 0, 0, 0, -1);
        x.hours(23);
        state(x, 2, 1, 0, 1, 23, -1);
        x.melt(0, 100);
        x.hours(1);
        state(x, 0, 1, 0, 1, 24, -1);
        state(x, 1, 5, 0, 1, 24, -1);
        state(x, 2, 4, -1, -1, 23, -1);
        x.hours(1);
        state(x, 0, 2, 0, -1, 24, -1);
        x.hours(5);
        state(x, 0, 2, 0, -1, 24, -1);
        x.order(0, 2, 1, 1);
        x.hours(1);
        state(x, 0, 3, 0, -1, 24, 0);
        Check.noElement("another what", () -> x.log(0, 8));
        Check.noElement("another what", () -> x.log(0, -1));
        Check.noElement("no such LOG", () -> x.log(3, 0));
        Check.noElement("no such LOG", () -> x.log(-1, 0));
    }

    private static void speed() {
        int[] flows = {0, 99, 100, 199, 200, 500};
        int[] steps = {0, 0, 1, 1, 2, 5};
        for (int k = 0; k < flows.length; k++) {
            LogRiver x = new LogRiver();
            x.reach(-1, 12, 1, 0);
            x.melt(0, flows[k]);
            x.cut(0, 9, 0);
            x.let(0, 0, 0);
            x.hours(1);
            Check.due("steps by a FLOW of " + flows[k], x.log(0, 5), steps[k]);
        }
        LogRiver x = new LogRiver();
        x.reach(-1, 12, 1, 0);
        x.reach(0, 1, 1, 0);
        x.melt(0, 500);
        x.melt(1, 500);
        x.cut(0, 9, 0);
        x.let(0, 0, 0);
        x.hours(1);
        Check.due("FLOW", x.water(0, 0), 1000);
        Check.due("at most 6 steps", x.log(0, 5), 6);
        x.hours(1);
        Check.due("6 steps, the last one to SEA", x.log(0, 3), 4);
    }

    private static void orderInCell() {
        LogRiver x = new LogRiver();
        x.reach(-1, 3, 5, 0);
        for (int k = 0; k < 4; k++) {
            x.cut(0, 9, 0);
        }
        x.let(2, 0, 0);
        x.let(0, 0, 0);
        x.let(3, 0, 1);
        x.let(1, 0, 1);
        x.melt(0, 100);
        x.hours(1);
        Check.due("the lower ones are gone ahead: first", x.inCell(0, 2, 0), 3);
        Check.due("second", x.inCell(0, 2, 1), 1);
        Check.due("behind them: first", x.inCell(0, 1, 0), 2);
        Check.due("second", x.inCell(0, 1, 1), 0);
        Check.due("none", x.inCell(0, 1, 2), -1);
        Check.due("none in the upper one", x.cell(0, 0, 0), 0);
    }

    private static void fullCells() {
        LogRiver x = new LogRiver();
        x.reach(-1, 3, 2, 0);
        x.boom(0, 1, 1);
        for (int k = 0; k < 5; k++) {
            x.cut(0, 9, 0);
        }
        x.cut(1, 9, 0);
        x.let(0, 0, 2);
        x.let(1, 0, 2);
        x.let(2, 0, 1);
        x.let(3, 0, 0);
        x.let(4, 0, 0);
        x.melt(0, 300);
        x.hours(1);
        Check.due("into the HEAP", x.log(0, 3), 2);
        Check.due("it stays, the HEAP is full", x.log(1, 5), 2);
        Check.due("one step, then it can't take another", x.log(2, 5), 2);
        Check.due("one step, not into one that holds CARRY", x.log(3, 5), 1);
        Check.due("and the next one likewise", x.log(4, 5), 1);
        x.let(5, 0, 0);
        x.hours(1);
        Check.due("both below are full", x.log(5, 5), 0);
        x.boom(0, 1, 2);
        x.hours(1);
        Check.due("one into the HEAP", x.log(1, 3), 2);
        Check.due("the first of the CELL above takes its place", x.log(3, 5), 2);
        Check.due("the second stays", x.log(4, 5), 1);
        Check.due("and so there is room for this", x.log(5, 5), 1);
        x.boom(0, 0, 2);
        x.hours(1);
        Check.due("a BOOM that catches it not lets it by", x.log(2, 3), 4);
        Check.due("all are at SEA in 3 steps", x.log(3, 3) * 100 + x.log(4, 3) * 10 + x.log(5, 3), 444);
    }

    private static void overIntoAnotherReach() {
        LogRiver x = new LogRiver();
        x.reach(-1, 5, 1, 0);
        x.reach(0, 2, 3, 0);
        x.reach(0, 2, 3, 0);
        x.melt(1, 500);
        x.melt(2, 100);
        for (int k = 0; k < 4; k++) {
            x.cut(0, 9, 0);
        }
        x.let(0, 1, 0);
        x.let(1, 1, 1);
        x.let(2, 2, 1);
        x.hours(1);
        Check.due("the lower CELL is first: its HOUR is over in the first CELL", x.log(1, 4) * 10 + x.log(1, 5), 0);
        Check.due("into a CELL that holds CARRY it can't", x.log(0, 4) * 10 + x.log(0, 5), 11);
        Check.due("nor can another", x.log(2, 4) * 10 + x.log(2, 5), 21);
        x.hours(1);
        Check.due("6 steps to SEA", x.log(1, 3), 4);
        Check.due("now from 1", x.log(0, 4) * 10 + x.log(0, 5), 0);
        Check.due("and ahead of the one from 2", x.log(2, 4), 2);
        x.let(3, 0, 4);
        x.melt(1, 0);
        x.hours(1);
        Check.due("by the SPEED where it is", x.log(0, 5), 1);
        Check.due("to SEA", x.log(3, 3), 4);
        Check.due("from 2", x.log(2, 4) * 10 + x.log(2, 5), 0);
        Check.due("hours AFLOAT", x.log(2, 6), 3);
    }

    private static void dams() {
        LogRiver x = new LogRiver();
        x.reach(-1, 1, 5, 0);
        x.reach(0, 1, 5, 0);
        x.dam(0, 100000);
        x.dam(1, 100000);
        x.melt(0, 100);
        x.melt(1, 100);
        x.gate(0, 49);
        x.gate(1, 49);
        x.cut(0, 9, 0);
        x.cut(0, 9, 0);
        x.let(0, 0, 0);
        x.let(1, 1, 0);
        x.hours(1);
        Check.due("OUT of 49: it stays", x.log(0, 4), 0);
        Check.due("OUT of 49: it stays", x.log(1, 4), 1);
        x.gate(0, 50);
        x.gate(1, 50);
        x.hours(1);
        Check.due("OUT of 50: to SEA", x.log(0, 3), 4);
        Check.due("OUT of 50: into NEXT", x.log(1, 4), 0);
    }

    private static void boomAheadOfDam() {
        LogRiver x = new LogRiver();
        x.reach(-1, 1, 5, 0);
        x.dam(0, 100000);
        x.boom(0, 1, 1);
        x.melt(0, 100);
        for (int k = 0; k < 3; k++) {
            x.cut(k / 2, 9, 0);
            x.let(k, 0, 0);
        }
        x.hours(1);
        Check.due("the BOOM catches it, whatever OUT is", x.heap(0, 0), 0);
        Check.due("the HEAP is full", x.log(1, 3), 1);
        Check.due("it isn't caught, and OUT is 0", x.log(2, 3), 1);
        x.gate(0, 50);
        x.hours(1);
        Check.due("what is caught never goes past the DAM", x.log(1, 3), 1);
        Check.due("another does", x.log(2, 3), 4);
    }

    private static void sinking() {
        for (int size = 1; size <= 9; size++) {
            LogRiver x = new LogRiver();
            x.reach(-1, 3, 3, 0);
            for (int k = 0; k < 3; k++) {
                x.cut(0, k == 1 ? size : 9, 0);
                x.let(k, 0, 1);
            }
            for (int left = 24 * size - 1; left > 0; left -= 100) {
                x.hours(Math.min(left, 100));
            }
            Check.due("AFLOAT still", x.log(1, 3), 1);
            x.hours(1);
            Check.due("SUNK", x.log(1, 3), 5);
            Check.due("hours AFLOAT", x.log(1, 6), 24 * size);
            Check.due("its REACH", x.log(1, 4), 0);
            Check.due("its CELL", x.log(1, 5), 1);
            Check.due("how many are left", x.cell(0, 1, 0), size == 9 ? 0 : 2);
            Check.due("the first", x.inCell(0, 1, 0), size == 9 ? -1 : 0);
            Check.due("the next moves up", x.inCell(0, 1, 1), size == 9 ? -1 : 2);
            x.hours(3);
            Check.due("it is no older then", x.log(1, 6), 24 * size);
            Check.due("it isn't on the BANK", x.let(1, 0, 0), 1);
        }
    }

    private static void inCell() {
        LogRiver x = new LogRiver();
        x.reach(-1, 2, 3, 0);
        x.cut(0, 1, 0);
        x.cut(0, 1, 0);
        x.let(1, 0, 1);
        x.let(0, 0, 1);
        Check.due("0", x.inCell(0, 1, 0), 1);
        Check.due("1", x.inCell(0, 1, 1), 0);
        Check.due("2", x.inCell(0, 1, 2), -1);
        Check.due("-1", x.inCell(0, 1, -1), -1);
        Check.due("the least", x.inCell(0, 1, Integer.MIN_VALUE), -1);
        Check.due("an empty CELL", x.inCell(0, 0, 0), -1);
        Check.noElement("no such CELL", () -> x.inCell(0, 2, 0));
        Check.noElement("no such CELL", () -> x.inCell(0, -1, 0));
        Check.noElement("no such REACH", () -> x.inCell(1, 0, 0));
        Check.noElement("no such REACH", () -> x.inCell(-1, 0, 0));
    }
}
