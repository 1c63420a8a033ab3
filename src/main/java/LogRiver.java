import java.util.ArrayList;
import java.util.Arrays;
import java.util.List;
import java.util.NoSuchElementException;

/**
 * A river on which logs are driven: reaches, dams, booms, jams, crews, mills and river law.
 * The document's words are kept: what it writes in capitals bears the same name here.
 */
public final class LogRiver {
    public static final int NONE = -1;

    private static final int MAX_REACHES = 10;
    private static final int MAX_LENGTH = 12;
    private static final int MAX_CARRY = 20;
    private static final int MAX_JAM = 1000;
    private static final int MAX_MELT = 500;
    private static final int MAX_DAM_ROOM = 100000;
    private static final int MAX_GATE = 1000;
    private static final int MAX_BOOM_ROOM = 100;
    private static final int MAX_LOGS = 400;
    private static final int MARKS = 16;
    private static final int ALL_MARKS = 0xFFFF;
    private static final int MAX_SIZE = 9;
    private static final int MAX_STUMP = 1000000;
    private static final int MAX_CREWS = 6;
    private static final int MAX_ORDERS = 60;
    private static final int MAX_WANTED = 100;
    private static final int MAX_LAWS = 6;
    private static final int MAX_DAY = 1000;
    private static final int MAX_HOURS_A_CALL = 200;
    private static final int MAX_HOUR = 20000;
    private static final int HOURS_A_DAY = 24;

    private static final int FLOW_A_STEP = 100;
    private static final int MAX_SPEED = 6;
    private static final int OUT_THAT_CARRIES_LOGS = 50;
    private static final int MAX_SAWN_AN_HOUR = 3;
    private static final int HOURS_TO_SINK_A_SIZE = 24;

    private static final int BYTES_A_FEED = 20;
    private static final int TOO_MANY_LAWS = -9;

    private final List<Reach> reaches;
    private final List<Log> logs;
    private final List<Law> laws;
    private final List<Crew> crews;
    private final List<Order> orders;
    private final Tape tape;
    private final LawReader reader;
    private final Judge judge;
    private final long[] accounts;
    private int hour;
    private int boards;
    private int faultPlace;
    private long melted;
    private long wentToSea;

    public LogRiver() {
        reaches = new ArrayList<>();
        logs = new ArrayList<>();
        laws = new ArrayList<>();
        crews = new ArrayList<>();
        orders = new ArrayList<>();
        tape = new Tape();
        reader = new LawReader(tape);
        judge = new Judge();
        accounts = new long[MARKS];
        faultPlace = NONE;
    }

    // ---- the river and what stands on it

    public int reach(int next, int length, int carry, int jam) {
        if (reaches.size() >= MAX_REACHES || !isWithin(next, NONE, reaches.size() - 1)) {
            return NONE;
        }
        if (!isWithin(length, 1, MAX_LENGTH) || !isWithin(carry, 1, MAX_CARRY) || !isWithin(jam, 0, MAX_JAM)) {
            return NONE;
        }
        Reach below = next >= 0 ? reaches.get(next) : null;
        Reach made = new Reach(reaches.size(), below, jam);
        for (int c = 0; c < length; c++) {
            made.cells.add(new Cell(carry));
        }
        reaches.add(made);
        return made.number;
    }

    public boolean dam(int reach, int room) throws NoSuchElementException {
        Reach at = reachAt(reach);
        if (!isWithin(room, 0, MAX_DAM_ROOM)) {
            return false;
        }
        at.dammed = true;
        at.room = room;
        return true;
    }

    public int gate(int reach, int v) throws NoSuchElementException {
        Reach at = reachAt(reach);
        if (!at.dammed || !isWithin(v, 0, MAX_GATE)) {
            return NONE;
        }
        int before = at.gate;
        at.gate = v;
        return before;
    }

    public int melt(int reach, int v) throws NoSuchElementException {
        Reach at = reachAt(reach);
        if (!isWithin(v, 0, MAX_MELT)) {
            return NONE;
        }
        int before = at.melt;
        at.melt = v;
        return before;
    }

    public boolean boom(int reach, int marks, int room) throws NoSuchElementException {
        Reach at = reachAt(reach);
        if (!isWithin(room, 1, MAX_BOOM_ROOM)) {
            return false;
        }
        if (at.boom == null) {
            at.boom = new Boom();
        }
        at.boom.marks = marks & ALL_MARKS;
        at.boom.room = room;
        return true;
    }

    public boolean watch(int reach, boolean is) throws NoSuchElementException {
        Reach at = reachAt(reach);
        boolean before = at.watched;
        at.watched = is;
        return before;
    }

    public int crew(int crew, int reach) throws NoSuchElementException {
        Reach at = reachAt(reach);
        if (crew == NONE) {
            return newCrew(at);
        }
        if (!isWithin(crew, 0, crews.size() - 1)) {
            return NONE;
        }
        Crew it = crews.get(crew);
        if (it.reach.number != reach) {
            it.come(at, hour);
        }
        return crew;
    }

    private int newCrew(Reach at) {
        if (crews.size() >= MAX_CREWS) {
            return NONE;
        }
        crews.add(new Crew(at, hour));
        return crews.size() - 1;
    }

    // ---- river law

    public int feed(int a, int b, int c, int d, int e) {
        if (tape.length > Tape.MAX_BYTES - BYTES_A_FEED) {
            return NONE;
        }
        tape.append(a);
        tape.append(b);
        tape.append(c);
        tape.append(d);
        tape.append(e);
        return tape.length;
    }

    public int law(int n, int day) throws IllegalArgumentException {
        if (!isWithin(n, 0, tape.length) || !isWithin(day, 0, MAX_DAY)) {
            throw new IllegalArgumentException("the tape has not so many bytes, or there is no such day");
        }
        // The reader keeps to the n bytes that it is told of, so that the tape can be emptied ahead of it.
        tape.length = 0;
        faultPlace = NONE;
        if (laws.size() >= MAX_LAWS) {
            return TOO_MANY_LAWS;
        }
        reader.readText(n);
        if (reader.fault != LawReader.NO_FAULT) {
            faultPlace = reader.faultPlace;
            return -1 - reader.fault;
        }
        laws.add(new Law(day, Arrays.copyOf(reader.code, reader.codeLength)));
        return laws.size() - 1;
    }

    public int fault() {
        return faultPlace;
    }

    private Law lawInForce() {
        Law latest = null;
        for (int i = 0; i < laws.size(); i++) {
            Law told = laws.get(i);
            boolean isInForce = told.day <= hour / HOURS_A_DAY;
            if (isInForce && (latest == null || told.day >= latest.day)) {
                latest = told;
            }
        }
        return latest;
    }

    // ---- logs and orders

    public int cut(int mark, int size, int stump) {
        if (logs.size() >= MAX_LOGS || !isWithin(mark, 0, MARKS - 1)) {
            return NONE;
        }
        if (!isWithin(size, 1, MAX_SIZE) || !isWithin(stump, 0, MAX_STUMP)) {
            return NONE;
        }
        Log made = new Log(logs.size(), mark, size, stump);
        logs.add(made);
        return made.number;
    }

    public int let(int log, int reach, int cell) throws NoSuchElementException {
        Log it = logAt(log);
        Reach at = reachAt(reach);
        checkCell(at, cell);
        if (it.place != Log.BANK) {
            return 1;
        }
        judge.weigh(lawInForce(), it, reach, hour);
        if (judge.barred) {
            return 2;
        }
        return at.takes(it, cell) ? 0 : 3;
    }

    public int order(int reach, int mark, int size, int n) throws NoSuchElementException {
        Reach at = reachAt(reach);
        if (at.boom == null || orders.size() >= MAX_ORDERS) {
            return NONE;
        }
        if (!isWithin(mark, 0, MARKS - 1) || !isWithin(size, 1, MAX_SIZE) || !isWithin(n, 1, MAX_WANTED)) {
            return NONE;
        }
        Order made = new Order(mark, size, n);
        orders.add(made);
        at.boom.orders.add(made);
        return orders.size() - 1;
    }

    // ---- an hour

    public int hours(int n) throws IllegalArgumentException {
        if (!isWithin(n, 0, MAX_HOURS_A_CALL) || hour + n > MAX_HOUR) {
            throw new IllegalArgumentException("no such number of hours");
        }
        for (int k = 0; k < n; k++) {
            runWater();
            moveLogs();
            jamCells();
            freeJams();
            makeJamsKnown();
            ageLogs();
            runMills();
            hour++;
        }
        return hour;
    }

    private void runWater() {
        for (int r = 0; r < reaches.size(); r++) {
            Reach at = reaches.get(r);
            at.flow = at.melt;
            melted += at.melt;
        }
        // A reach flows into one of a lesser number, so from the greatest down each IN is whole in time.
        for (int r = reaches.size() - 1; r >= 0; r--) {
            Reach at = reaches.get(r);
            at.passWater();
            if (at.below == null) {
                wentToSea += at.out;
            } else {
                at.below.flow += at.out;
            }
        }
    }

    // From the sea up: a log only comes into cells whose turn is over, so none moves twice in an hour.
    private void moveLogs() {
        for (int r = 0; r < reaches.size(); r++) {
            Reach at = reaches.get(r);
            int speed = Math.min(at.flow / FLOW_A_STEP, MAX_SPEED);
            for (int c = at.cells.size() - 1; c >= 0 && speed > 0; c--) {
                moveLogsOfCell(at, c, speed);
            }
        }
    }

    private void moveLogsOfCell(Reach at, int c, int speed) {
        Cell from = at.cells.get(c);
        if (from.jammed) {
            return;
        }
        int stayed = 0;
        for (int k = from.logs.size(); k > 0 && stayed < from.logs.size(); k--) {
            if (movesOn(from.logs.get(stayed), at, c, speed)) {
                from.logs.remove(stayed);
            } else {
                stayed++;
            }
        }
    }

    private boolean movesOn(Log log, Reach at, int from, int speed) {
        int to = from;
        int steps = speed;
        for (; steps > 0 && at.canTake(to + 1); steps--) {
            to++;
        }
        if (steps > 0 && to == at.cells.size() - 1 && leaves(log, at)) {
            return true;
        }
        return to != from && at.takes(log, to);
    }

    // The boom lies ahead of the dam: what it catches never tries the dam.
    private boolean leaves(Log log, Reach at) {
        if (at.boom != null && at.boom.catches(log.mark)) {
            if (at.boom.heap.size() >= at.boom.room) {
                return false;
            }
            judge.weigh(lawInForce(), log, at.number, hour);
            accounts[log.mark] += judge.toll;
            log.lieInHeap();
            at.boom.heap.add(log);
            return true;
        }
        if (at.dammed && at.out < OUT_THAT_CARRIES_LOGS) {
            return false;
        }
        if (at.below == null) {
            log.goToSea();
            return true;
        }
        return at.below.takes(log, 0);
    }

    private void jamCells() {
        for (int r = 0; r < reaches.size(); r++) {
            Reach at = reaches.get(r);
            if (at.flow < at.jam) {
                at.jamFullCells();
            }
        }
    }

    private void freeJams() {
        for (int k = 0; k < crews.size(); k++) {
            Crew it = crews.get(k);
            if (hour >= it.readyAt && it.reach.freesLowestJam()) {
                it.rest(hour);
            }
        }
    }

    private void makeJamsKnown() {
        for (int r = 0; r < reaches.size(); r++) {
            if (reaches.get(r).watched) {
                reaches.get(r).makeJamsKnown();
            }
        }
        for (int k = 0; k < crews.size(); k++) {
            crews.get(k).reach.makeJamsKnown();
        }
    }

    private void ageLogs() {
        for (int r = 0; r < reaches.size(); r++) {
            Reach at = reaches.get(r);
            for (int c = 0; c < at.cells.size(); c++) {
                at.cells.get(c).ageLogs();
            }
        }
    }

    private void runMills() {
        for (int r = 0; r < reaches.size(); r++) {
            Boom at = reaches.get(r).boom;
            if (at == null) {
                continue;
            }
            int left = MAX_SAWN_AN_HOUR;
            for (int k = 0; k < at.orders.size() && left > 0; k++) {
                left -= sawFor(at.orders.get(k), at, left);
            }
        }
    }

    private int sawFor(Order it, Boom at, int most) {
        for (int sawn = 0; sawn < most; sawn++) {
            Log log = it.wanted > 0 ? at.takeFirstFor(it) : null;
            if (log == null) {
                return sawn;
            }
            log.becomeBoards(boards);
            boards += log.size;
            it.wanted--;
        }
        return most;
    }

    // ---- what can be asked

    public int wants(int order) throws NoSuchElementException {
        if (!isWithin(order, 0, orders.size() - 1)) {
            throw new NoSuchElementException("no such order");
        }
        return orders.get(order).wanted;
    }

    public int log(int log, int what) throws NoSuchElementException {
        Log it = logAt(log);
        switch (what) {
            case 0:
                return it.mark;
            case 1:
                return it.size;
            case 2:
                return it.stump;
            case 3:
                return it.place;
            case 4:
                return it.reach;
            case 5:
                return it.cell;
            case 6:
                return it.age;
            case 7:
                return it.firstBoard;
            default:
                throw new NoSuchElementException("a log has no such what");
        }
    }

    public int cell(int reach, int cell, int what) throws NoSuchElementException {
        Reach at = reachAt(reach);
        checkCell(at, cell);
        Cell it = at.cells.get(cell);
        switch (what) {
            case 0:
                return it.logs.size();
            case 1:
                return it.jammed ? 1 : 0;
            case 2:
                return it.known ? 1 : 0;
            default:
                throw new NoSuchElementException("a cell has no such what");
        }
    }

    public int inCell(int reach, int cell, int i) throws NoSuchElementException {
        Reach at = reachAt(reach);
        checkCell(at, cell);
        return numberAt(at.cells.get(cell).logs, i);
    }

    public int heap(int reach, int i) throws NoSuchElementException {
        Reach at = reachAt(reach);
        if (at.boom == null) {
            return NONE;
        }
        return i == NONE ? at.boom.heap.size() : numberAt(at.boom.heap, i);
    }

    public int water(int reach, int what) throws NoSuchElementException {
        Reach at = reachAt(reach);
        switch (what) {
            case 0:
                return at.flow;
            case 1:
                return at.out;
            case 2:
                return at.dammed ? at.store : NONE;
            case 3:
                return at.below == null ? NONE : at.below.number;
            case 4:
                return at.cells.size();
            default:
                throw new NoSuchElementException("a reach has no such what");
        }
    }

    public long waters(int what) throws NoSuchElementException {
        switch (what) {
            case 0:
                return melted;
            case 1:
                return wentToSea;
            default:
                throw new NoSuchElementException("there are no such waters");
        }
    }

    public int board(int board) throws NoSuchElementException {
        for (int i = 0; i < logs.size(); i++) {
            Log it = logs.get(i);
            if (it.firstBoard != NONE && isWithin(board, it.firstBoard, it.firstBoard + it.size - 1)) {
                return i;
            }
        }
        throw new NoSuchElementException("no such board");
    }

    public long paid(int mark) throws NoSuchElementException {
        if (!isWithin(mark, 0, MARKS - 1)) {
            throw new NoSuchElementException("no such mark");
        }
        return accounts[mark];
    }

    public int count(int what) throws NoSuchElementException {
        switch (what) {
            case 0:
                return hour;
            case 1:
                return reaches.size();
            case 2:
                return logs.size();
            case 3:
                return laws.size();
            case 4:
                return boards;
            case 5:
                return crews.size();
            case 6:
                return countJams(false);
            case 7:
                return countJams(true);
            case 8:
                return orders.size();
            case 9:
                return tape.length;
            default:
                throw new NoSuchElementException("nothing of that kind is counted");
        }
    }

    private int countJams(boolean knownOnly) {
        int found = 0;
        for (int r = 0; r < reaches.size(); r++) {
            Reach at = reaches.get(r);
            for (int c = 0; c < at.cells.size(); c++) {
                Cell it = at.cells.get(c);
                if (knownOnly ? it.known : it.jammed) {
                    found++;
                }
            }
        }
        return found;
    }

    // ---- what the calls share

    private static boolean isWithin(int v, int least, int most) {
        return v >= least && v <= most;
    }

    private Reach reachAt(int number) {
        if (!isWithin(number, 0, reaches.size() - 1)) {
            throw new NoSuchElementException("no such reach");
        }
        return reaches.get(number);
    }

    private Log logAt(int number) {
        if (!isWithin(number, 0, logs.size() - 1)) {
            throw new NoSuchElementException("no such log");
        }
        return logs.get(number);
    }

    private static void checkCell(Reach at, int c) {
        if (!isWithin(c, 0, at.cells.size() - 1)) {
            throw new NoSuchElementException("no such cell");
        }
    }

    private static int numberAt(List<Log> row, int i) {
        return isWithin(i, 0, row.size() - 1) ? row.get(i).number : NONE;
    }

    /** A REACH with the DAM, the BOOM and the WATCH that may be there. */
    private static final class Reach {
        final int number;
        final Reach below;
        final int jam;
        final List<Cell> cells;
        int melt;
        boolean dammed;
        int room;
        int store;
        int gate;
        int flow;
        int out;
        boolean watched;
        Boom boom;

        Reach(int number, Reach below, int jam) {
            this.number = number;
            this.below = below;
            this.jam = jam;
            cells = new ArrayList<>();
        }

        void passWater() {
            if (!dammed) {
                out = flow;
                return;
            }
            store += flow;
            int spilt = Math.max(store - room, 0);
            out = spilt + Math.min(gate, store - spilt);
            store -= out;
        }

        boolean canTake(int c) {
            if (c < 0 || c >= cells.size()) {
                return false;
            }
            Cell it = cells.get(c);
            return !it.jammed && it.logs.size() < it.carry;
        }

        boolean takes(Log log, int c) {
            if (!canTake(c)) {
                return false;
            }
            cells.get(c).logs.add(log);
            log.floatIn(number, c);
            return true;
        }

        void jamFullCells() {
            for (int c = 0; c < cells.size(); c++) {
                Cell it = cells.get(c);
                if (it.logs.size() >= it.carry) {
                    it.jammed = true;
                }
            }
        }

        boolean freesLowestJam() {
            for (int c = cells.size() - 1; c >= 0; c--) {
                Cell it = cells.get(c);
                if (it.jammed) {
                    it.jammed = false;
                    it.known = false;
                    return true;
                }
            }
            return false;
        }

        void makeJamsKnown() {
            for (int c = 0; c < cells.size(); c++) {
                Cell it = cells.get(c);
                if (it.jammed) {
                    it.known = true;
                }
            }
        }
    }

    /** A CELL with its logs in the order in which they came. */
    private static final class Cell {
        final int carry;
        final List<Log> logs;
        boolean jammed;
        boolean known;

        Cell(int carry) {
            this.carry = carry;
            logs = new ArrayList<>();
        }

        // From the last one on, so that a log that sinks moves none whose turn is still to come.
        void ageLogs() {
            for (int i = logs.size() - 1; i >= 0; i--) {
                Log it = logs.get(i);
                it.age++;
                if (it.age >= HOURS_TO_SINK_A_SIZE * it.size) {
                    it.place = Log.SUNK;
                    logs.remove(i);
                }
            }
        }
    }

    /** A BOOM with its HEAP and its ORDERS, both in the order in which they came. */
    private static final class Boom {
        final List<Log> heap;
        final List<Order> orders;
        int marks;
        int room;

        Boom() {
            heap = new ArrayList<>();
            orders = new ArrayList<>();
        }

        boolean catches(int mark) {
            return (marks >> mark & 1) == 1;
        }

        Log takeFirstFor(Order it) {
            for (int i = 0; i < heap.size(); i++) {
                Log log = heap.get(i);
                if (log.mark == it.mark && log.size >= it.size) {
                    heap.remove(i);
                    return log;
                }
            }
            return null;
        }
    }

    /** A LOG and where it is. */
    private static final class Log {
        static final int BANK = 0;
        static final int AFLOAT = 1;
        static final int IN_HEAP = 2;
        static final int SAWN = 3;
        static final int AT_SEA = 4;
        static final int SUNK = 5;

        final int number;
        final int mark;
        final int size;
        final int stump;
        int place;
        int reach;
        int cell;
        int age;
        int firstBoard;

        Log(int number, int mark, int size, int stump) {
            this.number = number;
            this.mark = mark;
            this.size = size;
            this.stump = stump;
            place = BANK;
            reach = NONE;
            cell = NONE;
            firstBoard = NONE;
        }

        void floatIn(int newReach, int newCell) {
            place = AFLOAT;
            reach = newReach;
            cell = newCell;
        }

        void lieInHeap() {
            place = IN_HEAP;
            cell = NONE;
        }

        void goToSea() {
            place = AT_SEA;
            reach = NONE;
            cell = NONE;
        }

        void becomeBoards(int first) {
            place = SAWN;
            firstBoard = first;
        }
    }

    /** A CREW: readyAt is the first hour in which it can free a jam. */
    private static final class Crew {
        Reach reach;
        int readyAt;

        Crew(Reach reach, int hour) {
            this.reach = reach;
            readyAt = hour + 1;
        }

        // One that freed a jam in the hour just past isn't ready sooner by this: that would be hour + 1 too.
        void come(Reach at, int hour) {
            reach = at;
            readyAt = hour + 1;
        }

        void rest(int hour) {
            readyAt = hour + 2;
        }
    }

    /** An ORDER: wanted is how many logs it still wants. */
    private static final class Order {
        final int mark;
        final int size;
        int wanted;

        Order(int mark, int size, int wanted) {
            this.mark = mark;
            this.size = size;
            this.wanted = wanted;
        }
    }

    /**
     * A LAW: its rules as one row for a machine with a stack. What is 0 or above is a NUMBER, what is below
     * is one of these; they are all the row needs, as brackets are spent when the text is read.
     */
    private static final class Law {
        static final int MARK = -1;
        static final int SIZE = -2;
        static final int STUMP = -3;
        static final int HOUR = -4;
        static final int DAY = -5;
        static final int REACH = -6;
        static final int AGE = -7;
        static final int NAMES = 7;
        static final int PLUS = -8;
        static final int MINUS = -9;
        static final int TIMES = -10;
        static final int OVER = -11;
        static final int LESS = -12;
        static final int SAME = -13;
        static final int AND = -14;
        static final int OR = -15;
        static final int NOT = -16;
        static final int BAR = -17;
        static final int TOLL = -18;

        final int day;
        final int[] code;

        Law(int day, int[] code) {
            this.day = day;
            this.code = code;
        }
    }

    /** Weighs a log by a law: whether it is BARRED, and its TOLL. */
    private static final class Judge {
        // An EXPR leaves at most four values waiting for what is in brackets, and eight may be open.
        private static final int MAX_STACK = 4 * LawReader.MAX_OPEN_EXPRS + 1;

        private final int[] stack;
        private final int[] names;
        private int height;
        boolean barred;
        long toll;

        Judge() {
            stack = new int[MAX_STACK];
            names = new int[Law.NAMES];
        }

        void weigh(Law law, Log log, int reach, int hour) {
            barred = false;
            toll = 0;
            height = 0;
            if (law == null) {
                return;
            }
            name(Law.MARK, log.mark);
            name(Law.SIZE, log.size);
            name(Law.STUMP, log.stump);
            name(Law.HOUR, hour % HOURS_A_DAY);
            name(Law.DAY, hour / HOURS_A_DAY);
            name(Law.REACH, reach);
            name(Law.AGE, log.age);
            for (int i = 0; i < law.code.length; i++) {
                step(law.code[i]);
            }
        }

        private void name(int code, int value) {
            names[-1 - code] = value;
        }

        private void step(int code) {
            if (code >= 0) {
                push(code);
            } else if (code >= -Law.NAMES) {
                push(names[-1 - code]);
            } else if (code == Law.NOT) {
                push(pop() == 0 ? 1 : 0);
            } else if (code == Law.BAR) {
                barred |= pop() != 0;
            } else if (code == Law.TOLL) {
                toll += pop();
            } else {
                int b = pop();
                int a = pop();
                push(join(code, a, b));
            }
        }

        private void push(int v) {
            if (height < stack.length) {
                stack[height] = v;
                height++;
            }
        }

        private int pop() {
            if (height == 0) {
                return 0;
            }
            height--;
            return stack[height];
        }

        private static int join(int code, int a, int b) {
            switch (code) {
                case Law.PLUS:
                    return a + b;
                case Law.MINUS:
                    return a - b;
                case Law.TIMES:
                    return a * b;
                case Law.OVER:
                    return b == 0 ? 0 : a / b;
                case Law.LESS:
                    return a < b ? 1 : 0;
                case Law.SAME:
                    return a == b ? 1 : 0;
                case Law.AND:
                    return a != 0 && b != 0 ? 1 : 0;
                case Law.OR:
                    return a != 0 || b != 0 ? 1 : 0;
                default:
                    return 0;
            }
        }
    }

    /** The bytes that came and are no law yet. */
    private static final class Tape {
        static final int MAX_BYTES = 500;

        final int[] bytes;
        int length;

        Tape() {
            bytes = new int[MAX_BYTES];
        }

        void append(int four) {
            for (int shift = 24; shift >= 0 && length < bytes.length; shift -= 8) {
                bytes[length] = four >>> shift & 255;
                length++;
            }
        }
    }

    /** The TOKENS of a text, one after another. */
    private static final class Tokens {
        // The kinds of tokens; a sign's kind is its own byte, and all of these are other numbers.
        static final int END = 0;
        static final int WORD = 1;
        static final int NUMBER = 2;
        static final int LONG_NUMBER = 3;
        static final int NO_TOKEN = 4;
        private static final int BLANK = 5;
        private static final int MAX_DIGITS = 6;

        private final Tape tape;
        private int length;
        private int end;
        int start;
        int kind;

        Tokens(Tape tape) {
            this.tape = tape;
        }

        void openText(int n) {
            length = n;
            end = 0;
            advance();
        }

        void advance() {
            start = endOfRow(end, BLANK);
            kind = kindOf(byteAt(start));
            if (kind == WORD || kind == NUMBER) {
                end = endOfRow(start, kind);
            } else {
                end = Math.min(start + 1, length);
            }
            if (kind == NUMBER && end - start > MAX_DIGITS) {
                kind = LONG_NUMBER;
            }
        }

        boolean isWord(String word) {
            if (kind != WORD || end - start != word.length()) {
                return false;
            }
            for (int i = 0; i < word.length(); i++) {
                if (byteAt(start + i) != word.charAt(i)) {
                    return false;
                }
            }
            return true;
        }

        int numberValue() {
            int value = 0;
            for (int i = start; i < end; i++) {
                value = value * 10 + byteAt(i) - '0';
            }
            return value;
        }

        private int endOfRow(int from, int kindOfRow) {
            int i = from;
            while (i < length && kindOf(byteAt(i)) == kindOfRow) {
                i++;
            }
            return i;
        }

        private int byteAt(int i) {
            return i >= 0 && i < length && i < tape.bytes.length ? tape.bytes[i] : NONE;
        }

        private static int kindOf(int b) {
            if (b >= 'a' && b <= 'z') {
                return WORD;
            }
            if (b >= '0' && b <= '9') {
                return NUMBER;
            }
            switch (b) {
                case NONE:
                    return END;
                case ' ':
                case '\n':
                    return BLANK;
                case '(':
                case ')':
                case ';':
                case '+':
                case '-':
                case '*':
                case '/':
                case '<':
                case '=':
                    return b;
                default:
                    return NO_TOKEN;
            }
        }
    }

    /** Reads a text by the document's grammar, a method a line of it, into a law's row or the first FAULT. */
    private static final class LawReader {
        static final int NO_FAULT = 0;
        static final int MAX_OPEN_EXPRS = 8;
        private static final int MISPLACED = 1;
        private static final int TOO_MUCH = 2;
        private static final int NO_NAME = 3;
        private static final int MAX_RULES = 12;

        private final Tokens tokens;
        final int[] code;
        int codeLength;
        int fault;
        int faultPlace;

        LawReader(Tape tape) {
            tokens = new Tokens(tape);
            // Each token puts at most one number into the row, and a token has at least one byte.
            code = new int[Tape.MAX_BYTES];
        }

        void readText(int n) {
            codeLength = 0;
            fault = NO_FAULT;
            faultPlace = NONE;
            tokens.openText(n);
            for (int rule = 0; rule <= MAX_RULES && tokens.kind != Tokens.END && fault == NO_FAULT; rule++) {
                readRule(rule);
            }
        }

        private void readRule(int rule) {
            boolean isBar = tokens.isWord("bar");
            if (!isBar && !tokens.isWord("toll")) {
                fail(MISPLACED);
                return;
            }
            if (rule == MAX_RULES) {
                fail(TOO_MUCH);
                return;
            }
            tokens.advance();
            readExpr(0);
            pass(';');
            put(isBar ? Law.BAR : Law.TOLL);
        }

        private void readExpr(int within) {
            if (within >= MAX_OPEN_EXPRS) {
                // Too much is only what could stand here otherwise; what couldn't keeps its own fault.
                int faultHere = tokens.isWord("not") ? NO_FAULT : faultOfPart();
                fail(faultHere == NO_FAULT ? TOO_MUCH : faultHere);
                return;
            }
            readTest(within);
            for (int k = 0; k < Tape.MAX_BYTES && fault == NO_FAULT; k++) {
                boolean isAnd = tokens.isWord("and");
                if (!isAnd && !tokens.isWord("or")) {
                    return;
                }
                tokens.advance();
                readTest(within);
                put(isAnd ? Law.AND : Law.OR);
            }
        }

        private void readTest(int within) {
            boolean isNot = tokens.isWord("not");
            if (isNot) {
                tokens.advance();
            }
            readSum(within);
            int sign = tokens.kind;
            if (fault == NO_FAULT && (sign == '<' || sign == '=')) {
                tokens.advance();
                readSum(within);
                put(sign == '<' ? Law.LESS : Law.SAME);
            }
            if (isNot) {
                put(Law.NOT);
            }
        }

        private void readSum(int within) {
            readTerm(within);
            for (int k = 0; k < Tape.MAX_BYTES && fault == NO_FAULT; k++) {
                int sign = tokens.kind;
                if (sign != '+' && sign != '-') {
                    return;
                }
                tokens.advance();
                readTerm(within);
                put(sign == '+' ? Law.PLUS : Law.MINUS);
            }
        }

        private void readTerm(int within) {
            readPart(within);
            for (int k = 0; k < Tape.MAX_BYTES && fault == NO_FAULT; k++) {
                int sign = tokens.kind;
                if (sign != '*' && sign != '/') {
                    return;
                }
                tokens.advance();
                readPart(within);
                put(sign == '*' ? Law.TIMES : Law.OVER);
            }
        }

        private void readPart(int within) {
            int faultHere = faultOfPart();
            if (faultHere != NO_FAULT) {
                fail(faultHere);
            } else if (tokens.kind == '(') {
                tokens.advance();
                readExpr(within + 1);
                pass(')');
            } else {
                put(tokens.kind == Tokens.NUMBER ? tokens.numberValue() : codeOfName());
                tokens.advance();
            }
        }

        private int faultOfPart() {
            switch (tokens.kind) {
                case Tokens.NUMBER:
                case '(':
                    return NO_FAULT;
                case Tokens.WORD:
                    return codeOfName() == 0 ? NO_NAME : NO_FAULT;
                case Tokens.LONG_NUMBER:
                    return TOO_MUCH;
                default:
                    return MISPLACED;
            }
        }

        // 0 is no name's code.
        private int codeOfName() {
            if (tokens.isWord("mark")) {
                return Law.MARK;
            }
            if (tokens.isWord("size")) {
                return Law.SIZE;
            }
            if (tokens.isWord("stump")) {
                return Law.STUMP;
            }
            if (tokens.isWord("hour")) {
                return Law.HOUR;
            }
            if (tokens.isWord("day")) {
                return Law.DAY;
            }
            if (tokens.isWord("reach")) {
                return Law.REACH;
            }
            return tokens.isWord("age") ? Law.AGE : 0;
        }

        private void pass(int sign) {
            if (fault != NO_FAULT) {
                return;
            }
            if (tokens.kind != sign) {
                fail(MISPLACED);
                return;
            }
            tokens.advance();
        }

        private void put(int v) {
            if (codeLength < code.length) {
                code[codeLength] = v;
                codeLength++;
            }
        }

        // Only the first fault along the text counts.
        private void fail(int kindOfFault) {
            if (fault == NO_FAULT) {
                fault = kindOfFault;
                faultPlace = tokens.start;
            }
        }
    }
}
