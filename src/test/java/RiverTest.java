/** Promises 1 to 8, 21 and 22: reaches and what stands on them, and the water of an hour. */
public final class RiverTest {
    public static void main(String[] args) {
        newObject();
        reach();
        dam();
        gate();
        melt();
        boom();
        watch();
        crew();
        water();
        spillAndGate();
        roomMadeLess();
        Check.finish();
    }

    private static void newObject() {
        LogRiver x = new LogRiver();
        for (int what = 0; what <= 9; what++) {
            Check.due("new: count(" + what + ")", x.count(what), 0);
        }
        Check.due("new: waters(0)", x.waters(0), 0);
        Check.due("new: waters(1)", x.waters(1), 0);
        Check.due("new: fault()", x.fault(), -1);
        for (int mark = 0; mark < 16; mark++) {
            Check.due("new: paid(" + mark + ")", x.paid(mark), 0);
        }
        Check.noElement("new: water(0, 0)", () -> x.water(0, 0));
        Check.noElement("new: log(0, 0)", () -> x.log(0, 0));
        Check.noElement("new: board(0)", () -> x.board(0));
        Check.noElement("new: wants(0)", () -> x.wants(0));
        Check.due("new: hours(0)", x.hours(0), 0);
    }

    private static void reach() {
        LogRiver x = new LogRiver();
        Check.due("next itself", x.reach(0, 1, 1, 0), -1);
        Check.due("length 13", x.reach(-1, 13, 1, 0), -1);
        Check.due("length 0", x.reach(-1, 0, 1, 0), -1);
        Check.due("carry 0", x.reach(-1, 1, 0, 0), -1);
        Check.due("carry 21", x.reach(-1, 1, 21, 0), -1);
        Check.due("jam -1", x.reach(-1, 1, 1, -1), -1);
        Check.due("jam 1001", x.reach(-1, 1, 1, 1001), -1);
        Check.due("next -2", x.reach(-2, 1, 1, 0), -1);
        Check.due("none of these", x.count(1), 0);
        Check.due("least", x.reach(-1, 1, 1, 0), 0);
        Check.due("most", x.reach(0, 12, 20, 1000), 1);
        Check.due("a second to the sea", x.reach(-1, 3, 2, 5), 2);
        Check.due("next is the newest", x.reach(2, 3, 2, 5), 3);
        Check.due("next is not there", x.reach(4, 3, 2, 5), -1);
        Check.due("next is the greatest int", x.reach(Integer.MAX_VALUE, 3, 2, 5), -1);
        for (int r = 4; r < 10; r++) {
            Check.due("reach " + r, x.reach(r - 1, 1, 1, 1), r);
        }
        Check.due("the eleventh", x.reach(0, 1, 1, 1), -1);
        Check.due("count(1)", x.count(1), 10);
        Check.due("NEXT of 1", x.water(1, 3), 0);
        Check.due("NEXT of 2", x.water(2, 3), -1);
        Check.due("LENGTH of 1", x.water(1, 4), 12);
        Check.due("LENGTH of 0", x.water(0, 4), 1);
    }

    private static void dam() {
        LogRiver x = new LogRiver();
        x.reach(-1, 2, 2, 0);
        Check.noElement("dam(1, 5)", () -> x.dam(1, 5) ? 1 : 0);
        Check.noElement("dam(-1, -5)", () -> x.dam(-1, -5) ? 1 : 0);
        Check.due("room -1", x.dam(0, -1), false);
        Check.due("room 100001", x.dam(0, 100001), false);
        Check.due("no dam yet", x.water(0, 2), -1);
        Check.due("room 0", x.dam(0, 0), true);
        Check.due("STORE at first", x.water(0, 2), 0);
        Check.due("room 100000", x.dam(0, 100000), true);
        x.melt(0, 500);
        x.hours(2);
        Check.due("a ROOM that is none changes nothing", x.dam(0, 100001), false);
        x.hours(1);
        Check.due("STORE holds all", x.water(0, 2), 1500);
    }

    private static void gate() {
        LogRiver x = new LogRiver();
        x.reach(-1, 2, 2, 0);
        Check.noElement("gate(1, 5)", () -> x.gate(1, 5));
        Check.noElement("gate(-1, 5000)", () -> x.gate(-1, 5000));
        Check.due("no DAM", x.gate(0, 5), -1);
        x.dam(0, 500);
        Check.due("at first", x.gate(0, 1000), 0);
        Check.due("1001", x.gate(0, 1001), -1);
        Check.due("-1", x.gate(0, -1), -1);
        Check.due("what it was", x.gate(0, 7), 1000);
        x.dam(0, 400);
        Check.due("a new ROOM leaves the GATE", x.gate(0, 0), 7);
        Check.due("0 is a GATE", x.gate(0, 0), 0);
    }

    private static void melt() {
        LogRiver x = new LogRiver();
        x.reach(-1, 2, 2, 0);
        Check.noElement("melt(1, 5)", () -> x.melt(1, 5));
        Check.noElement("melt(-1, 501)", () -> x.melt(-1, 501));
        Check.due("at first", x.melt(0, 500), 0);
        Check.due("501", x.melt(0, 501), -1);
        Check.due("-1", x.melt(0, -1), -1);
        Check.due("what it was", x.melt(0, 0), 500);
        Check.due("0", x.melt(0, 3), 0);
    }

    private static void boom() {
        LogRiver x = new LogRiver();
        x.reach(-1, 1, 5, 0);
        Check.noElement("boom(1, 1, 1)", () -> x.boom(1, 1, 1) ? 1 : 0);
        Check.noElement("boom(-1, 1, 0)", () -> x.boom(-1, 1, 0) ? 1 : 0);
        Check.due("room 0", x.boom(0, 1, 0), false);
        Check.due("room 101", x.boom(0, 1, 101), false);
        Check.due("no BOOM yet", x.heap(0, -1), -1);
        Check.due("room 1", x.boom(0, 0x10002, 1), true);
        Check.due("an empty HEAP", x.heap(0, -1), 0);
        x.melt(0, 100);
        x.cut(1, 1, 0);
        x.cut(1, 1, 0);
        x.cut(0, 1, 0);
        for (int log = 0; log < 3; log++) {
            x.let(log, 0, 0);
        }
        Check.due("an order", x.order(0, 5, 1, 1), 0);
        x.hours(1);
        Check.due("caught", x.log(0, 3), 2);
        Check.due("no room left: it stays", x.log(1, 3), 1);
        Check.due("bit 16 is no MARK, so 0 isn't caught", x.log(2, 3), 4);
        Check.due("room 100 and other marks", x.boom(0, -1, 100), true);
        Check.due("the HEAP stays", x.heap(0, 0), 0);
        Check.due("the ORDERS stay", x.wants(0), 1);
        Check.due("False changes nothing", x.boom(0, 0, 0), false);
        x.hours(1);
        Check.due("caught now", x.log(1, 3), 2);
        x.cut(15, 1, 0);
        x.let(3, 0, 0);
        x.hours(1);
        Check.due("MARK 15 is caught by bit 15", x.heap(0, 2), 3);
        Check.due("a ROOM below what lies there", x.boom(0, -1, 1), true);
        x.cut(1, 1, 0);
        x.let(4, 0, 0);
        x.hours(1);
        Check.due("the HEAP keeps what it has", x.heap(0, -1), 3);
        Check.due("and takes none", x.log(4, 3), 1);
    }

    private static void watch() {
        LogRiver x = new LogRiver();
        x.reach(-1, 1, 1, 0);
        Check.noElement("watch(1, true)", () -> x.watch(1, true) ? 1 : 0);
        Check.noElement("watch(-1, false)", () -> x.watch(-1, false) ? 1 : 0);
        Check.due("at first", x.watch(0, false), false);
        Check.due("still none", x.watch(0, true), false);
        Check.due("there was", x.watch(0, true), true);
        Check.due("there was", x.watch(0, false), true);
        Check.due("no more", x.watch(0, false), false);
    }

    private static void crew() {
        LogRiver x = new LogRiver();
        x.reach(-1, 1, 1, 0);
        x.reach(0, 1, 1, 0);
        Check.noElement("crew(-1, 2)", () -> x.crew(-1, 2));
        Check.noElement("crew(7, -1)", () -> x.crew(7, -1));
        Check.due("no such CREW", x.crew(0, 0), -1);
        for (int k = 0; k < 6; k++) {
            Check.due("crew " + k, x.crew(-1, k % 2), k);
        }
        Check.due("the seventh", x.crew(-1, 0), -1);
        Check.due("no such CREW: 6", x.crew(6, 0), -1);
        Check.due("no such CREW: -2", x.crew(-2, 0), -1);
        Check.due("elsewhere", x.crew(5, 0), 5);
        Check.due("there already", x.crew(5, 0), 5);
        Check.due("count(5)", x.count(5), 6);
    }

    private static void water() {
        LogRiver x = new LogRiver();
        x.reach(-1, 1, 1, 0);
        x.reach(0, 1, 1, 0);
        x.reach(0, 1, 1, 0);
        x.reach(2, 1, 1, 0);
        x.reach(-1, 1, 1, 0);
        int[] melts = {1, 20, 300, 40, 5};
        for (int r = 0; r < 5; r++) {
            Check.due("FLOW at first", x.water(r, 0), 0);
            Check.due("OUT at first", x.water(r, 1), 0);
            x.melt(r, melts[r]);
        }
        x.hours(1);
        int[] flows = {361, 20, 340, 40, 5};
        for (int r = 0; r < 5; r++) {
            Check.due("FLOW of " + r, x.water(r, 0), flows[r]);
            Check.due("OUT of " + r, x.water(r, 1), flows[r]);
        }
        Check.due("MELT so far", x.waters(0), 366);
        Check.due("to SEA", x.waters(1), 366);
        x.melt(3, 0);
        x.hours(2);
        Check.due("the latest HOUR's FLOW", x.water(2, 0), 300);
        Check.due("MELT so far", x.waters(0), 366 + 2 * 326);
        Check.due("to SEA", x.waters(1), 366 + 2 * 326);
        Check.noElement("water(5, 0)", () -> x.water(5, 0));
        Check.noElement("water(-1, 0)", () -> x.water(-1, 0));
        Check.noElement("water(0, 5)", () -> x.water(0, 5));
        Check.noElement("water(0, -1)", () -> x.water(0, -1));
        Check.noElement("waters(2)", () -> x.waters(2));
        Check.noElement("waters(-1)", () -> x.waters(-1));
    }

    private static void spillAndGate() {
        LogRiver x = new LogRiver();
        x.reach(-1, 1, 1, 0);
        x.dam(0, 100);
        x.gate(0, 150);
        x.melt(0, 300);
        x.hours(1);
        Check.due("200 SPILLS, and the GATE lets go no more than the 100 in STORE", x.water(0, 1), 300);
        Check.due("nothing is left", x.water(0, 2), 0);
        x.gate(0, 30);
        x.hours(1);
        Check.due("200 and 30", x.water(0, 1), 230);
        Check.due("70 are left", x.water(0, 2), 70);
        x.melt(0, 10);
        x.hours(1);
        Check.due("no SPILL", x.water(0, 1), 30);
        Check.due("50 are left", x.water(0, 2), 50);
        Check.due("FLOW is IN", x.water(0, 0), 10);
        x.melt(0, 50);
        x.gate(0, 0);
        x.hours(1);
        Check.due("what just fills its ROOM doesn't SPILL", x.water(0, 1), 0);
        Check.due("full", x.water(0, 2), 100);
        Check.due("MELT so far", x.waters(0), 660);
        Check.due("to SEA", x.waters(1), 560);
    }

    private static void roomMadeLess() {
        LogRiver x = new LogRiver();
        x.reach(-1, 1, 1, 0);
        x.reach(0, 1, 1, 0);
        x.dam(1, 1000);
        x.melt(1, 400);
        x.hours(2);
        Check.due("STORE", x.water(1, 2), 800);
        Check.due("dam(1, 300)", x.dam(1, 300), true);
        Check.due("what is above it stays till the next HOUR", x.water(1, 2), 800);
        x.hours(1);
        Check.due("then it SPILLS", x.water(1, 1), 900);
        Check.due("STORE", x.water(1, 2), 300);
        Check.due("into NEXT", x.water(0, 0), 900);
    }
}
