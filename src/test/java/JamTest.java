/** Promises 7, 8, 18 and 25: jams, who frees them, and who knows of them. */
public final class JamTest {
    public static void main(String[] args) {
        whenCellsJam();
        jamsHold();
        crewsWaitAnHour();
        crewsRestAnHour();
        crewsThatMove();
        severalCrews();
        lowestFirst();
        known();
        knownByCrew();
        emptyJam();
        cell();
        Check.finish();
    }

    /** A river of one reach whose cells are filled with logs of size 9, so many each. */
    private static LogRiver river(int length, int carry, int jam) {
        LogRiver x = new LogRiver();
        x.reach(-1, length, carry, jam);
        for (int c = 0; c < length; c++) {
            for (int k = 0; k < carry; k++) {
                x.let(x.cut(0, 9, 0), 0, c);
            }
        }
        return x;
    }

    private static void whenCellsJam() {
        LogRiver full = river(2, 2, 1);
        Check.due("not ahead of the HOUR", full.count(6), 0);
        full.hours(1);
        Check.due("FLOW 0 is below 1", full.count(6), 2);
        LogRiver high = river(2, 2, 99);
        high.melt(0, 99);
        high.hours(1);
        Check.due("FLOW 99 isn't below 99", high.count(6), 0);
        high.melt(0, 98);
        high.hours(1);
        Check.due("FLOW 98 is", high.count(6), 2);
        LogRiver never = river(2, 2, 0);
        never.hours(1);
        Check.due("JAM 0", never.count(6), 0);
        LogRiver x = new LogRiver();
        x.reach(-1, 1, 2, 1000);
        x.let(x.cut(0, 9, 0), 0, 0);
        x.hours(1);
        Check.due("one log isn't CARRY", x.cell(0, 0, 1), 0);
        x.let(x.cut(0, 9, 0), 0, 0);
        Check.due("not ahead of the HOUR", x.cell(0, 0, 1), 0);
        x.hours(1);
        Check.due("two are", x.cell(0, 0, 1), 1);
    }

    private static void jamsHold() {
        LogRiver x = new LogRiver();
        x.reach(-1, 3, 1, 50);
        x.reach(0, 1, 1, 0);
        x.let(x.cut(0, 9, 0), 0, 1);
        x.hours(1);
        Check.due("JAMMED", x.cell(0, 1, 1), 1);
        x.melt(0, 500);
        x.let(x.cut(0, 9, 0), 0, 0);
        x.hours(3);
        Check.due("high water doesn't free it: not from it", x.log(0, 5), 1);
        Check.due("not into it", x.log(1, 5), 0);
        Check.due("JAMMED still", x.cell(0, 1, 1), 1);
        Check.due("let: JAMMED", x.let(x.cut(0, 9, 0), 0, 1), 3);
        LogRiver y = new LogRiver();
        y.reach(-1, 1, 1, 50);
        y.reach(0, 1, 1, 0);
        y.boom(0, 1, 5);
        y.let(y.cut(0, 1, 0), 0, 0);
        y.hours(1);
        y.melt(1, 500);
        y.let(y.cut(0, 9, 0), 1, 0);
        y.hours(22);
        Check.due("not into the HEAP from a JAMMED one", y.log(0, 3), 1);
        y.hours(1);
        Check.due("SUNK in it", y.log(0, 3), 5);
        y.hours(1);
        Check.due("an empty one is JAMMED still: none comes over into it", y.log(1, 4), 1);
        y.crew(-1, 0);
        y.hours(2);
        Check.due("not in the HOUR in which it is freed", y.log(1, 4), 1);
        y.hours(1);
        Check.due("in the one behind it", y.log(1, 4), 0);
    }

    private static void crewsWaitAnHour() {
        LogRiver x = river(1, 1, 50);
        x.crew(-1, 0);
        x.hours(1);
        Check.due("it came ahead of this HOUR", x.count(6), 1);
        x.melt(0, 60);
        x.hours(1);
        Check.due("it came ahead of the HOUR ahead", x.count(6), 0);
        LogRiver y = river(1, 1, 50);
        y.crew(-1, 0);
        y.hours(2);
        Check.due("freed", y.count(6), 0);
        y.hours(1);
        Check.due("low water jams it again, and the CREW rests", y.count(6), 1);
        y.hours(1);
        Check.due("freed again", y.count(6), 0);
    }

    private static void crewsRestAnHour() {
        LogRiver x = river(3, 1, 50);
        x.hours(1);
        x.melt(0, 60);
        x.crew(-1, 0);
        int[] jams = {3, 2, 2, 1, 1, 0, 0};
        for (int k = 0; k < jams.length; k++) {
            x.crew(0, 0);
            x.hours(1);
            Check.due("jams after " + (k + 1) + " hours of the CREW", x.count(6), jams[k]);
        }
        for (int idleHours = 6; idleHours <= 7; idleHours++) {
            LogRiver idle = river(1, 1, 50);
            idle.melt(0, 60);
            idle.crew(-1, 0);
            idle.hours(idleHours);
            idle.melt(0, 40);
            idle.hours(1);
            Check.due("a CREW with nothing to free isn't tired", idle.count(6), 0);
        }
    }

    private static void crewsThatMove() {
        LogRiver x = river(1, 1, 50);
        x.reach(-1, 2, 1, 50);
        x.let(x.cut(0, 9, 0), 1, 0);
        x.let(x.cut(0, 9, 0), 1, 1);
        x.hours(1);
        x.melt(0, 60);
        x.melt(1, 60);
        x.crew(-1, 0);
        x.hours(2);
        Check.due("freed in 0", x.cell(0, 0, 1), 0);
        Check.due("moves", x.crew(0, 1), 0);
        x.hours(1);
        Check.due("it came just now", x.cell(1, 1, 1), 1);
        x.hours(1);
        Check.due("freed in 1", x.cell(1, 1, 1), 0);
        x.hours(1);
        Check.due("it rests", x.cell(1, 0, 1), 1);
        x.crew(0, 0);
        x.crew(0, 1);
        x.hours(1);
        Check.due("it went and came again: a new one there", x.cell(1, 0, 1), 1);
        x.hours(1);
        Check.due("freed", x.cell(1, 0, 1), 0);
    }

    private static void severalCrews() {
        LogRiver x = river(6, 1, 50);
        x.reach(-1, 1, 1, 0);
        x.hours(1);
        x.melt(0, 60);
        x.crew(-1, 0);
        x.crew(-1, 1);
        x.crew(-1, 0);
        x.hours(1);
        x.crew(-1, 0);
        x.hours(1);
        Check.due("two were there in time", x.count(6), 4);
        x.hours(1);
        Check.due("two rest, the third is there in time", x.count(6), 3);
    }

    private static void lowestFirst() {
        LogRiver x = river(4, 1, 50);
        x.hours(1);
        x.melt(0, 60);
        x.crew(-1, 0);
        x.hours(2);
        for (int c = 0; c < 4; c++) {
            Check.due("JAMMED " + c, x.cell(0, c, 1), c < 3 ? 1 : 0);
        }
    }

    private static void known() {
        LogRiver x = river(2, 1, 50);
        x.reach(-1, 1, 1, 50);
        x.let(x.cut(0, 9, 0), 1, 0);
        x.hours(1);
        Check.due("none KNOWN", x.count(7), 0);
        x.watch(0, true);
        Check.due("not ahead of the HOUR", x.count(7), 0);
        x.hours(1);
        Check.due("KNOWN", x.count(7), 2);
        Check.due("KNOWN", x.cell(0, 0, 2), 1);
        Check.due("not KNOWN in another REACH", x.cell(1, 0, 2), 0);
        Check.due("JAMMED", x.count(6), 3);
        x.watch(0, false);
        x.hours(1);
        Check.due("KNOWN without the WATCH", x.count(7), 2);
        x.melt(0, 60);
        x.crew(-1, 0);
        x.hours(2);
        Check.due("freed, and not KNOWN any more", x.cell(0, 1, 2), 0);
        Check.due("the other one is", x.cell(0, 0, 2), 1);
        LogRiver y = river(1, 1, 50);
        y.watch(0, true);
        y.hours(1);
        Check.due("KNOWN in the HOUR in which it jams", y.count(7), 1);
        y.watch(0, false);
        y.crew(-1, 0);
        y.hours(2);
        Check.due("freed in it", y.count(7), 0);
        y.crew(-1, 0);
        y.hours(1);
        Check.due("what jams anew is KNOWN anew", y.count(7), 1);
    }

    private static void knownByCrew() {
        LogRiver x = river(1, 1, 50);
        x.hours(1);
        x.crew(-1, 0);
        x.hours(1);
        Check.due("a CREW knows at once", x.cell(0, 0, 2), 1);
        LogRiver y = river(1, 1, 50);
        y.reach(-1, 1, 1, 0);
        y.crew(-1, 0);
        y.crew(0, 1);
        y.hours(1);
        Check.due("one that went away doesn't", y.cell(0, 0, 2), 0);
    }

    private static void emptyJam() {
        LogRiver x = new LogRiver();
        x.reach(-1, 1, 1, 50);
        x.let(x.cut(0, 1, 0), 0, 0);
        x.hours(24);
        Check.due("its log is SUNK", x.cell(0, 0, 0), 0);
        Check.due("it is JAMMED still", x.cell(0, 0, 1), 1);
        Check.due("let", x.let(x.cut(0, 1, 0), 0, 0), 3);
        x.crew(-1, 0);
        x.hours(2);
        Check.due("freed", x.cell(0, 0, 1), 0);
        Check.due("let", x.let(1, 0, 0), 0);
    }

    private static void cell() {
        LogRiver x = river(2, 3, 0);
        Check.due("how many", x.cell(0, 1, 0), 3);
        Check.due("JAMMED", x.cell(0, 1, 1), 0);
        Check.due("KNOWN", x.cell(0, 1, 2), 0);
        Check.noElement("another what", () -> x.cell(0, 0, 3));
        Check.noElement("another what", () -> x.cell(0, 0, -1));
        Check.noElement("no such CELL", () -> x.cell(0, 2, 0));
        Check.noElement("no such CELL", () -> x.cell(0, -1, 0));
        Check.noElement("no such REACH", () -> x.cell(1, 0, 0));
        Check.noElement("no such REACH", () -> x.cell(-1, 0, 0));
    }
}
