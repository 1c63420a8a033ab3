import java.util.ArrayList;
import java.util.Comparator;
import java.util.List;
import java.util.NoSuchElementException;

/**
 * The document told a second time, by other means than the program's: cells and heaps are not held but looked for
 * among the logs, faults are found by a machine of states, and texts are weighed by splitting them.
 */
final class RiverModel {
    static final class Reach {
        int next;
        int length;
        int carry;
        int jam;
        int melt;
        boolean dam;
        int damRoom;
        int store;
        int gate;
        boolean boom;
        int marks;
        int boomRoom;
        boolean watch;
        int in;
        int out;
        boolean[] jammed;
        boolean[] known;
    }

    static final class Log {
        int number;
        int mark;
        int size;
        int stump;
        int where;
        int reach = -1;
        int cell = -1;
        int age;
        int board = -1;
        long came;
    }

    private final List<Reach> reaches = new ArrayList<>();
    private final List<Log> logs = new ArrayList<>();
    private final List<int[]> crews = new ArrayList<>();
    private final List<int[]> orders = new ArrayList<>();
    private final List<List<String>> laws = new ArrayList<>();
    private final List<Integer> lawDays = new ArrayList<>();
    private final List<Integer> boards = new ArrayList<>();
    private final long[] paid = new long[16];
    private String tape = "";
    private int fault = -1;
    private int hour = 0;
    private long arrivals = 0;
    private long melted = 0;
    private long sea = 0;

    int reach(int next, int length, int carry, int jam) {
        boolean fine = reaches.size() < 10 && next >= -1 && next < reaches.size() && length >= 1 && length <= 12
            && carry >= 1 && carry <= 20 && jam >= 0 && jam <= 1000;
        if (!fine) {
            return -1;
        }
        Reach r = new Reach();
        r.next = next;
        r.length = length;
        r.carry = carry;
        r.jam = jam;
        r.jammed = new boolean[length];
        r.known = new boolean[length];
        reaches.add(r);
        return reaches.size() - 1;
    }

    private Reach at(int reach) {
        if (reach < 0 || reach >= reaches.size()) {
            throw new NoSuchElementException();
        }
        return reaches.get(reach);
    }

    private Log logAt(int log) {
        if (log < 0 || log >= logs.size()) {
            throw new NoSuchElementException();
        }
        return logs.get(log);
    }

    private void cellAt(int reach, int cell) {
        if (cell < 0 || cell >= at(reach).length) {
            throw new NoSuchElementException();
        }
    }

    int dam(int reach, int room) {
        Reach r = at(reach);
        if (room < 0 || room > 100000) {
            return 0;
        }
        r.dam = true;
        r.damRoom = room;
        return 1;
    }

    int gate(int reach, int v) {
        Reach r = at(reach);
        if (!r.dam || v < 0 || v > 1000) {
            return -1;
        }
        int was = r.gate;
        r.gate = v;
        return was;
    }

    int melt(int reach, int v) {
        Reach r = at(reach);
        if (v < 0 || v > 500) {
            return -1;
        }
        int was = r.melt;
        r.melt = v;
        return was;
    }

    int boom(int reach, int marks, int room) {
        Reach r = at(reach);
        if (room < 1 || room > 100) {
            return 0;
        }
        r.boom = true;
        r.marks = marks;
        r.boomRoom = room;
        return 1;
    }

    int watch(int reach, boolean is) {
        Reach r = at(reach);
        boolean was = r.watch;
        r.watch = is;
        return was ? 1 : 0;
    }

    // A crew: its reach, the hour that was when it came, the hour in which it last freed.
    int crew(int crew, int reach) {
        at(reach);
        if (crew == -1 && crews.size() < 6) {
            crews.add(new int[] {reach, hour, -9});
            return crews.size() - 1;
        }
        if (crew < 0 || crew >= crews.size()) {
            return -1;
        }
        if (crews.get(crew)[0] != reach) {
            crews.get(crew)[0] = reach;
            crews.get(crew)[1] = hour;
        }
        return crew;
    }

    int feed(int... five) {
        if (tape.length() + 20 > 500) {
            return -1;
        }
        StringBuilder more = new StringBuilder(tape);
        for (int word : five) {
            more.append((char) (word >>> 24)).append((char) (word >> 16 & 255));
            more.append((char) (word >> 8 & 255)).append((char) (word & 255));
        }
        tape = more.toString();
        return tape.length();
    }

    int law(int n, int day) {
        if (n < 0 || n > tape.length() || day < 0 || day > 1000) {
            throw new IllegalArgumentException();
        }
        String text = tape.substring(0, n);
        tape = "";
        fault = -1;
        if (laws.size() == 6) {
            return -9;
        }
        ModelText read = new ModelText(text);
        if (read.fault != 0) {
            fault = read.place;
            return -1 - read.fault;
        }
        laws.add(read.tokens);
        lawDays.add(day);
        return laws.size() - 1;
    }

    int fault() {
        return fault;
    }

    private List<String> inForce() {
        for (int day = hour / 24; day >= 0; day--) {
            for (int i = laws.size() - 1; i >= 0; i--) {
                if (lawDays.get(i) == day) {
                    return laws.get(i);
                }
            }
        }
        return new ArrayList<>();
    }

    /** The sum of all rules of a kind for a log; of bars, how many aren't 0. */
    private long weigh(String kind, Log log, int reach) {
        List<String> tokens = inForce();
        int[] names = {log.mark, log.size, log.stump, hour % 24, hour / 24, reach, log.age};
        long sum = 0;
        int from = 0;
        for (int i = 0; i < tokens.size(); i++) {
            if (tokens.get(i).equals(";")) {
                if (tokens.get(from).equals(kind)) {
                    int value = ModelText.value(tokens.subList(from + 1, i), names);
                    sum += kind.equals("bar") ? (value == 0 ? 0 : 1) : value;
                }
                from = i + 1;
            }
        }
        return sum;
    }

    int cut(int mark, int size, int stump) {
        boolean fine = logs.size() < 400 && mark >= 0 && mark <= 15 && size >= 1 && size <= 9 && stump >= 0
            && stump <= 1000000;
        if (!fine) {
            return -1;
        }
        Log log = new Log();
        log.number = logs.size();
        log.mark = mark;
        log.size = size;
        log.stump = stump;
        logs.add(log);
        return log.number;
    }

    private List<Log> lying(int where, int reach, int cell) {
        List<Log> found = new ArrayList<>();
        for (Log log : logs) {
            if (log.where == where && log.reach == reach && log.cell == cell) {
                found.add(log);
            }
        }
        found.sort(Comparator.comparingLong((Log log) -> log.came));
        return found;
    }

    private boolean open(int reach, int cell) {
        return !at(reach).jammed[cell] && lying(1, reach, cell).size() < at(reach).carry;
    }

    private void put(Log log, int where, int reach, int cell) {
        log.where = where;
        log.reach = reach;
        log.cell = cell;
        log.came = arrivals++;
    }

    int let(int log, int reach, int cell) {
        Log it = logAt(log);
        cellAt(reach, cell);
        if (it.where != 0) {
            return 1;
        }
        if (weigh("bar", it, reach) != 0) {
            return 2;
        }
        if (!open(reach, cell)) {
            return 3;
        }
        put(it, 1, reach, cell);
        return 0;
    }

    int hours(int n) {
        if (n < 0 || n > 200 || hour + n > 20000) {
            throw new IllegalArgumentException();
        }
        for (int k = 0; k < n; k++) {
            water();
            moves();
            jams();
            crews();
            seen();
            ages();
            mills();
            hour++;
        }
        return hour;
    }

    private void water() {
        for (int i = reaches.size() - 1; i >= 0; i--) {
            Reach r = reaches.get(i);
            melted += r.melt;
            r.in = r.melt;
            for (int k = i + 1; k < reaches.size(); k++) {
                if (reaches.get(k).next == i) {
                    r.in += reaches.get(k).out;
                }
            }
            r.out = r.in;
            if (r.dam) {
                int all = r.store + r.in;
                int kept = Math.min(all, r.damRoom);
                int through = Math.min(r.gate, kept);
                r.out = all - kept + through;
                r.store = kept - through;
            }
            sea += r.next == -1 ? r.out : 0;
        }
    }

    private void moves() {
        for (int i = 0; i < reaches.size(); i++) {
            for (int c = reaches.get(i).length - 1; c >= 0; c--) {
                for (Log log : lying(1, i, c)) {
                    int steps = Math.min(6, reaches.get(i).in / 100);
                    while (steps > 0 && step(log, i)) {
                        steps = log.where == 1 && log.reach == i ? steps - 1 : 0;
                    }
                }
            }
        }
    }

    private boolean step(Log log, int reach) {
        Reach r = reaches.get(reach);
        if (r.jammed[log.cell]) {
            return false;
        }
        if (log.cell < r.length - 1) {
            return open(reach, log.cell + 1) && moved(log, 1, reach, log.cell + 1);
        }
        if (r.boom && (r.marks & 1 << log.mark) != 0) {
            if (lying(2, reach, -1).size() >= r.boomRoom) {
                return false;
            }
            paid[log.mark] += weigh("toll", log, reach);
            return moved(log, 2, reach, -1);
        }
        if (r.dam && r.out < 50) {
            return false;
        }
        return r.next == -1 ? moved(log, 4, -1, -1) : open(r.next, 0) && moved(log, 1, r.next, 0);
    }

    private boolean moved(Log log, int where, int reach, int cell) {
        put(log, where, reach, cell);
        return true;
    }

    private void jams() {
        for (int i = 0; i < reaches.size(); i++) {
            Reach r = reaches.get(i);
            for (int c = 0; c < r.length; c++) {
                r.jammed[c] |= r.in < r.jam && lying(1, i, c).size() == r.carry;
            }
        }
    }

    private void crews() {
        for (int[] crew : crews) {
            if (crew[1] > hour - 1 || crew[2] == hour - 1) {
                continue;
            }
            Reach r = reaches.get(crew[0]);
            for (int c = r.length - 1; c >= 0; c--) {
                if (r.jammed[c]) {
                    r.jammed[c] = false;
                    r.known[c] = false;
                    crew[2] = hour;
                    break;
                }
            }
        }
    }

    private void seen() {
        for (int i = 0; i < reaches.size(); i++) {
            Reach r = reaches.get(i);
            boolean eyes = r.watch;
            for (int[] crew : crews) {
                eyes |= crew[0] == i;
            }
            for (int c = 0; c < r.length; c++) {
                r.known[c] |= eyes && r.jammed[c];
            }
        }
    }

    private void ages() {
        for (Log log : logs) {
            if (log.where == 1) {
                log.age++;
                log.where = log.age >= 24 * log.size ? 5 : 1;
            }
        }
    }

    // An order: its reach, mark, size, how many it wants.
    private void mills() {
        for (int i = 0; i < reaches.size(); i++) {
            int sawn = 0;
            for (int k = 0; k < orders.size(); ) {
                int[] order = orders.get(k);
                Log found = null;
                for (Log log : lying(2, i, -1)) {
                    if (found == null && log.mark == order[1] && log.size >= order[2]) {
                        found = log;
                    }
                }
                if (order[0] != i || order[3] == 0 || sawn == 3 || found == null) {
                    k++;
                    continue;
                }
                sawn++;
                order[3]--;
                found.where = 3;
                found.board = boards.size();
                for (int b = 0; b < found.size; b++) {
                    boards.add(found.number);
                }
            }
        }
    }

    int order(int reach, int mark, int size, int n) {
        boolean fine = at(reach).boom && orders.size() < 60 && mark >= 0 && mark <= 15 && size >= 1 && size <= 9
            && n >= 1 && n <= 100;
        if (!fine) {
            return -1;
        }
        orders.add(new int[] {reach, mark, size, n});
        return orders.size() - 1;
    }

    int wants(int order) {
        if (order < 0 || order >= orders.size()) {
            throw new NoSuchElementException();
        }
        return orders.get(order)[3];
    }

    int log(int log, int what) {
        Log it = logAt(log);
        int[] answers = {it.mark, it.size, it.stump, it.where, it.reach, it.cell, it.age, it.board};
        if (what < 0 || what >= answers.length) {
            throw new NoSuchElementException();
        }
        return answers[what];
    }

    int cell(int reach, int cell, int what) {
        cellAt(reach, cell);
        if (what < 0 || what > 2) {
            throw new NoSuchElementException();
        }
        if (what == 0) {
            return lying(1, reach, cell).size();
        }
        return (what == 1 ? at(reach).jammed : at(reach).known)[cell] ? 1 : 0;
    }

    int inCell(int reach, int cell, int i) {
        cellAt(reach, cell);
        List<Log> row = lying(1, reach, cell);
        return i >= 0 && i < row.size() ? row.get(i).number : -1;
    }

    int heap(int reach, int i) {
        if (!at(reach).boom) {
            return -1;
        }
        List<Log> row = lying(2, reach, -1);
        if (i == -1) {
            return row.size();
        }
        return i >= 0 && i < row.size() ? row.get(i).number : -1;
    }

    int water(int reach, int what) {
        Reach r = at(reach);
        int[] answers = {r.in, r.out, r.dam ? r.store : -1, r.next, r.length};
        if (what < 0 || what >= answers.length) {
            throw new NoSuchElementException();
        }
        return answers[what];
    }

    long waters(int what) {
        if (what != 0 && what != 1) {
            throw new NoSuchElementException();
        }
        return what == 0 ? melted : sea;
    }

    int board(int board) {
        if (board < 0 || board >= boards.size()) {
            throw new NoSuchElementException();
        }
        return boards.get(board);
    }

    long paid(int mark) {
        if (mark < 0 || mark > 15) {
            throw new NoSuchElementException();
        }
        return paid[mark];
    }

    int count(int what) {
        int jammed = 0;
        int known = 0;
        for (Reach r : reaches) {
            for (int c = 0; c < r.length; c++) {
                jammed += r.jammed[c] ? 1 : 0;
                known += r.known[c] ? 1 : 0;
            }
        }
        int[] answers = {hour, reaches.size(), logs.size(), laws.size(), boards.size(), crews.size(), jammed, known,
            orders.size(), tape.length()};
        if (what < 0 || what >= answers.length) {
            throw new NoSuchElementException();
        }
        return answers[what];
    }
}
