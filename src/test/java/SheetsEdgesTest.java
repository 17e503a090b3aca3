/** Promises 25 to 35: a test of its own for each edge that the document names of SHEETS, TELLING and the rest. */
public final class SheetsEdgesTest {
    private static final int BYTES = Dues.BYTES, SHORTS = Dues.SHORTS, INTS = Dues.INTS;
    private static final int MIN = Integer.MIN_VALUE, MAX = Integer.MAX_VALUE;
    private static final Dues d = new Dues();
    private static final Edges e = new Edges(d);

    public static void main(String[] args) {
        sheetsOf0To60();
        sheetGetsANewRow();
        sheetRefusals();
        loseEdges();
        loseNamesNoFaults();
        putCutToBytes();
        putCutToShorts();
        putCutToInts();
        putChangesOneCell();
        putRefusals();
        cellRefusals();
        cellFaults();
        copyAsTheyWere();
        copyNone();
        copyRefusals();
        copyFaultsInOrder();
        copyIndexes();
        tellEdges();
        tellRefusals();
        callEdges();
        callRefusals();
        asEdges();
        asRefusals();
        traceWraps();
        traceAlone();
        faultAheadOfAny();
        faultOfTheLatest();
        faultIsLeft();
        manyEdges();
        manyRefusals();
        d.end();
    }

    private static void cells(String when, TownLisp x, int k, int lane, long... due) {
        for (int i = 0; i < due.length; i++) {
            d.due(when + ": cell " + i, x.cell(k, i, lane), due[i]);
        }
        d.due(when + ": behind the last", x.cell(k, due.length, lane), TownLisp.LOST);
        d.due(when + ": fault()", x.fault(), 3);
    }

    // ---- rows

    private static void sheetsOf0To60() {
        d.part("SHEETS 0 .. 3 have a row of 0 .. 60 numbers (0 at first) of a LANE");
        for (int k = 0; k < 4; k++) {
            for (int lane = 0; lane < 3; lane++) {
                TownLisp x = new TownLisp();
                d.due("none", x.sheet(k, lane, 0), 1);
                cells("none", x, k, lane);
                d.due("one", x.sheet(k, lane, 1), 1);
                cells("one", x, k, lane, 0);
                d.due("60", x.sheet(k, lane, 60), 1);
                cells("60", x, k, lane, new long[60]);
            }
        }
    }

    private static void sheetGetsANewRow() {
        d.part("25: A SHEET gets a new row");
        TownLisp x = new TownLisp();
        Dues.write(x, 0, INTS, 1, 2, 3);
        Dues.write(x, 1, INTS, 4, 5, 6);
        x.sheet(0, INTS, 3);
        cells("of the same length", x, 0, INTS, 0, 0, 0);
        cells("another is left", x, 1, INTS, 4, 5, 6);
        Dues.write(x, 0, INTS, 1, 2, 3);
        x.sheet(0, INTS, 2);
        x.sheet(0, INTS, 4);
        cells("a shorter, then a longer one", x, 0, INTS, 0, 0, 0, 0);
        Dues.write(x, 0, INTS, 1, 2, 3);
        x.sheet(0, BYTES, 3);
        cells("of another lane", x, 0, BYTES, 0, 0, 0);
        d.due("no longer of its lane", x.cell(0, 0, INTS), TownLisp.LOST);
        d.due("cast", x.fault(), 2);
        Dues.write(x, 0, INTS, 1, 2, 3);
        x.lose(0);
        x.sheet(0, INTS, 3);
        cells("behind nothing", x, 0, INTS, 0, 0, 0);
    }

    private static void sheetRefusals() {
        d.part("25: UNKNOWN; OUTSIDE: lane, n above 60; SIZE");
        e.range("sheet", Edges::busy, (x, k) -> x.sheet(k, 0, 1), 0, 3, TownLisp.UNKNOWN, 0);
        e.range("lane", Edges::busy, (x, lane) -> x.sheet(0, lane, 1), 0, 2, TownLisp.OUTSIDE, 0);
        e.leaves("n 61", Edges::busy, x -> x.sheet(0, 0, 61), TownLisp.OUTSIDE, 0);
        e.leaves("most", Edges::busy, x -> x.sheet(0, 0, MAX), TownLisp.OUTSIDE, 0);
        e.leaves("n -1", Edges::busy, x -> x.sheet(0, 0, -1), -14, 4);
        e.leaves("least", Edges::busy, x -> x.sheet(0, 0, MIN), -14, 4);
        e.leaves("n -1, where nothing is", Edges::busy, x -> x.sheet(3, 0, -1), -14, 4);
        e.leaves("unknown first", Edges::busy, x -> x.sheet(4, 3, 61), TownLisp.UNKNOWN, 0);
        e.leaves("unknown ahead of size", Edges::busy, x -> x.sheet(-1, 0, -1), TownLisp.UNKNOWN, 0);
        e.leaves("lane ahead of size", Edges::busy, x -> x.sheet(0, 3, -1), TownLisp.OUTSIDE, 0);
        TownLisp taken = Edges.busy();
        d.due("n 60", taken.sheet(0, 0, 60), 1);
        d.due("fault()", taken.fault(), 0);
    }

    private static void loseEdges() {
        d.part("26: A SHEET has nothing: 1; 0: it had nothing. UNKNOWN");
        e.range("sheet", Edges::busy, TownLisp::lose, 0, 3, TownLisp.UNKNOWN);
        e.leaves("it had nothing", Edges::busy, x -> x.lose(3), 0);
        for (int k = 0; k < 3; k++) {
            TownLisp x = Edges.busy();
            d.due("a row, " + k, x.lose(k), 1);
            d.due("again", x.lose(k), 0);
            d.due("nothing", x.put(k, 0, 0), -11);
            d.due("another is left", x.lose((k + 1) % 3), 1);
        }
    }

    private static void loseNamesNoFaults() {
        d.part("26: it names no FAULTS");
        TownLisp x = Edges.busy();
        x.lose(0);
        d.due("fault() behind 1", x.fault(), 3);
        x.lose(0);
        d.due("fault() behind 0", x.fault(), 3);
        x.lose(4);
        d.due("fault() behind unknown", x.fault(), 3);
    }

    // ---- cells

    private static void cut(int lane, int v, long due) {
        TownLisp x = new TownLisp();
        x.sheet(0, lane, 1);
        d.due("put " + v, x.put(0, 0, v), 1);
        d.due("cell of " + v, x.cell(0, 0, lane), due);
    }

    private static void putCutToBytes() {
        d.part("what comes to a cell of it is cut to its LANE: bytes");
        cut(BYTES, 127, 127);
        cut(BYTES, 128, -128);
        cut(BYTES, 255, -1);
        cut(BYTES, 256, 0);
        cut(BYTES, -1, -1);
        cut(BYTES, -128, -128);
        cut(BYTES, -129, 127);
        cut(BYTES, MAX, -1);
        cut(BYTES, MIN, 0);
    }

    private static void putCutToShorts() {
        d.part("what comes to a cell of it is cut to its LANE: shorts");
        cut(SHORTS, 128, 128);
        cut(SHORTS, 32767, 32767);
        cut(SHORTS, 32768, -32768);
        cut(SHORTS, 65535, -1);
        cut(SHORTS, 65536, 0);
        cut(SHORTS, -32768, -32768);
        cut(SHORTS, -32769, 32767);
        cut(SHORTS, MAX, -1);
        cut(SHORTS, MIN, 0);
    }

    private static void putCutToInts() {
        d.part("what comes to a cell of it is cut to its LANE: ints");
        cut(INTS, 32768, 32768);
        cut(INTS, 65536, 65536);
        cut(INTS, MAX, MAX);
        cut(INTS, MIN, MIN);
        cut(INTS, -1, -1);
    }

    private static void putChangesOneCell() {
        d.part("27: Cell i of a SHEET becomes v");
        TownLisp x = new TownLisp();
        Dues.write(x, 0, INTS, 1, 2, 3);
        x.put(0, 0, 7);
        cells("the first", x, 0, INTS, 7, 2, 3);
        x.put(0, 2, 9);
        cells("the last", x, 0, INTS, 7, 2, 9);
    }

    private static void putRefusals() {
        d.part("27: UNKNOWN; NULL; INDEX");
        e.range("sheet", Edges::busy, (x, k) -> x.put(k, 0, 1), 0, 3, TownLisp.UNKNOWN, 0);
        e.leaves("unknown first", Edges::busy, x -> x.put(4, -1, 1), TownLisp.UNKNOWN, 0);
        e.leaves("nothing ahead of index", Edges::busy, x -> x.put(3, -1, 1), -11, 1);
        e.leaves("nothing", Edges::busy, x -> x.put(3, 0, 1), -11, 1);
        e.range("cell", Edges::busy, (x, i) -> x.put(0, i, 1), 0, 14, -13, 3);
        e.leaves("of an empty row", Edges::busy, x -> x.put(2, 0, 1), -13, 3);
        e.range("cell of 60", () -> {
            TownLisp x = Edges.bare();
            x.sheet(0, INTS, 60);
            return x;
        }, (x, i) -> x.put(0, i, 1), 0, 59, -13, 3);
    }

    private static void cellRefusals() {
        d.part("28: LOST: UNKNOWN, OUTSIDE: lane");
        e.leaves("sheet -1", Edges::busy, x -> x.cell(-1, 0, 0), TownLisp.LOST, 0);
        e.leaves("sheet 4", Edges::busy, x -> x.cell(4, 0, 0), TownLisp.LOST, 0);
        e.leaves("lane -1", Edges::busy, x -> x.cell(0, 0, -1), TownLisp.LOST, 0);
        e.leaves("lane 3", Edges::busy, x -> x.cell(0, 0, 3), TownLisp.LOST, 0);
        e.leaves("unknown first", Edges::busy, x -> x.cell(4, -1, 3), TownLisp.LOST, 0);
        e.leaves("outside ahead of nothing", Edges::busy, x -> x.cell(3, 0, 3), TownLisp.LOST, 0);
        e.leaves("outside ahead of index", Edges::busy, x -> x.cell(0, -1, 3), TownLisp.LOST, 0);
        TownLisp last = new TownLisp();
        Dues.write(last, 3, INTS, 8);
        d.due("sheet 3, lane 2", last.cell(3, 0, INTS), 8);
    }

    private static void cellFaults() {
        d.part("28: FAULTS CAST (nothing is no CAST), NULL, INDEX");
        e.leaves("the first", Edges::busy, x -> x.cell(0, 0, 0), 't', 0);
        e.leaves("the last", Edges::busy, x -> x.cell(0, 14, 0), '0', 0);
        e.leaves("cast", Edges::busy, x -> x.cell(0, 0, 1), TownLisp.LOST, 2);
        e.leaves("cast ahead of index", Edges::busy, x -> x.cell(0, -1, 2), TownLisp.LOST, 2);
        e.leaves("cast of an empty row", Edges::busy, x -> x.cell(2, 0, 0), TownLisp.LOST, 2);
        for (int lane = 0; lane < 3; lane++) {
            int l = lane;
            e.leaves("nothing is no cast, lane " + lane, Edges::busy, x -> x.cell(3, 0, l), TownLisp.LOST, 1);
            e.leaves("nothing ahead of index, lane " + lane, Edges::busy, x -> x.cell(3, -1, l), TownLisp.LOST, 1);
        }
        for (int i : new int[] {MIN, -1, 15, MAX}) {
            e.leaves("cell " + i, Edges::busy, x -> x.cell(0, i, 0), TownLisp.LOST, 3);
        }
        e.leaves("of an empty row", Edges::busy, x -> x.cell(2, 0, 1), TownLisp.LOST, 3);
    }

    // ---- copy

    private static TownLisp threeRows() {
        TownLisp x = new TownLisp();
        Dues.write(x, 0, INTS, 1, 2, 3, 4, 5);
        Dues.write(x, 1, INTS, 7, 8, 9);
        Dues.write(x, 2, SHORTS, 6, 6, 6, 6, 6);
        x.put(3, 0, 0);
        return x;
    }

    private static void copyAsTheyWere() {
        d.part("29: n cells go to another one (perhaps the same) from j on, as they were");
        TownLisp x = threeRows();
        d.due("all of the other", x.copy(0, 0, 1, 0, 3), 3);
        d.due("fault()", x.fault(), 0);
        cells("all of the other", x, 1, INTS, 1, 2, 3);
        cells("the first is left", x, 0, INTS, 1, 2, 3, 4, 5);
        d.due("the last to the last", x.copy(0, 4, 1, 2, 1), 1);
        cells("the last to the last", x, 1, INTS, 1, 2, 5);
        TownLisp up = threeRows();
        d.due("upwards", up.copy(0, 0, 0, 1, 4), 4);
        cells("upwards", up, 0, INTS, 1, 1, 2, 3, 4);
        TownLisp down = threeRows();
        d.due("downwards", down.copy(0, 1, 0, 0, 4), 4);
        cells("downwards", down, 0, INTS, 2, 3, 4, 5, 5);
        e.leaves("onto itself", SheetsEdgesTest::threeRows, y -> y.copy(0, 0, 0, 0, 5), 5, 0);
        TownLisp full = new TownLisp();
        full.sheet(0, BYTES, 60);
        full.sheet(3, BYTES, 60);
        full.put(0, 59, -128);
        d.due("60 cells", full.copy(0, 0, 3, 0, 60), 60);
        d.due("the last of 60", full.cell(3, 59, BYTES), -128);
        d.due("61 cells", full.copy(0, 0, 3, 0, 61), -13);
    }

    private static void copyNone() {
        d.part("29: no cells, from 0 .. how many there are");
        e.leaves("from 0 to 0", SheetsEdgesTest::threeRows, x -> x.copy(0, 0, 1, 0, 0), 0, 0);
        e.leaves("at the ends", SheetsEdgesTest::threeRows, x -> x.copy(0, 5, 1, 3, 0), 0, 0);
        e.range("from", SheetsEdgesTest::threeRows, (x, i) -> x.copy(0, i, 1, 0, 0), 0, 5, -13, 3);
        e.range("to", SheetsEdgesTest::threeRows, (x, j) -> x.copy(0, 0, 1, j, 0), 0, 3, -13, 3);
        e.leaves("of an empty row", Edges::busy, x -> x.copy(2, 0, 2, 0, 0), 0, 0);
        e.leaves("of an empty row, one", Edges::busy, x -> x.copy(2, 0, 2, 0, 1), -13, 3);
    }

    private static void copyRefusals() {
        d.part("29: UNKNOWN");
        e.range("sheet", Edges::busy, (x, k) -> x.copy(k, 0, 1, 0, 1), 0, 3, TownLisp.UNKNOWN, 0);
        e.range("other", Edges::busy, (x, other) -> x.copy(1, 0, other, 0, 1), 0, 3, TownLisp.UNKNOWN, 0);
        e.leaves("ahead of nothing", Edges::busy, x -> x.copy(3, 0, 4, 0, 1), TownLisp.UNKNOWN, 0);
        e.leaves("ahead of nothing", Edges::busy, x -> x.copy(4, 0, 3, 0, 1), TownLisp.UNKNOWN, 0);
        e.leaves("ahead of index", Edges::busy, x -> x.copy(0, -1, 4, -1, -1), TownLisp.UNKNOWN, 0);
    }

    private static void copyFaultsInOrder() {
        d.part("29: FAULTS NULL (the first, the other), CAST (unlike LANES), INDEX");
        e.leaves("the first has nothing", Edges::busy, x -> x.copy(3, 0, 0, 0, 1), -11, 1);
        e.leaves("the other has nothing", Edges::busy, x -> x.copy(0, 0, 3, 0, 1), -11, 1);
        e.leaves("both have nothing", Edges::busy, x -> x.copy(3, 0, 3, 0, 0), -11, 1);
        e.leaves("nothing ahead of index", Edges::busy, x -> x.copy(3, -1, 1, 9, -1), -11, 1);
        e.leaves("nothing ahead of index", Edges::busy, x -> x.copy(1, -1, 3, 9, -1), -11, 1);
        e.leaves("bytes to ints", Edges::busy, x -> x.copy(0, 0, 1, 0, 1), -12, 2);
        e.leaves("ints to bytes", Edges::busy, x -> x.copy(1, 0, 0, 0, 1), -12, 2);
        e.leaves("no cells of unlike lanes", Edges::busy, x -> x.copy(2, 0, 1, 0, 0), -12, 2);
        e.leaves("cast ahead of index", Edges::busy, x -> x.copy(0, -1, 1, -1, -1), -12, 2);
        TownLisp lost = threeRows();
        lost.lose(2);
        d.due("a lane that it had is none", lost.copy(0, 0, 2, 0, 1), -11);
    }

    private static void copyIndexes() {
        d.part("29: INDEX: i, j, n below 0 or beyond");
        e.range("i of two", SheetsEdgesTest::threeRows, (x, i) -> x.copy(0, i, 1, 0, 2), 0, 3, -13, 3);
        e.range("j of two", SheetsEdgesTest::threeRows, (x, j) -> x.copy(0, 0, 1, j, 2), 0, 1, -13, 3);
        e.range("n, to a shorter one", SheetsEdgesTest::threeRows, (x, n) -> x.copy(0, 0, 1, 0, n), 0, 3, -13, 3);
        e.range("n, from a shorter one", SheetsEdgesTest::threeRows, (x, n) -> x.copy(1, 0, 0, 0, n), 0, 3, -13, 3);
        e.range("n, from 1 on", SheetsEdgesTest::threeRows, (x, n) -> x.copy(0, 1, 0, 0, n), 0, 4, -13, 3);
        e.range("n, to 1 on", SheetsEdgesTest::threeRows, (x, n) -> x.copy(0, 0, 0, 1, n), 0, 4, -13, 3);
        e.leaves("n below 0 at the ends", SheetsEdgesTest::threeRows, x -> x.copy(0, 5, 1, 3, -1), -13, 3);
        e.leaves("a sum that wraps", SheetsEdgesTest::threeRows, x -> x.copy(0, MAX, 1, 0, MAX), -13, 3);
        e.leaves("a sum that wraps", SheetsEdgesTest::threeRows, x -> x.copy(0, 0, 1, MAX, MAX), -13, 3);
    }

    // ---- TELLING, CALLED, as

    private static void tells(String letter, int thick, int due, int trace) {
        TownLisp x = Dues.townOf("t00;o0011;" + letter + "00" + thick + "0");
        d.due(letter + thick, x.tell(1), due);
        d.due(letter + thick + " trace", x.trace(), trace);
    }

    private static void tellEdges() {
        d.part("TELLING of PEOPLE by bodies that leave their number in TRACE as they begin");
        tells("o", 1, 1, 1);
        tells("o", 9, 9, 1);
        tells("s", 1, 101, 2 * 31 + 1);
        tells("s", 9, 109, 2 * 31 + 1);
        tells("c", 1, 102, ((3 * 31 + 2) * 31 + 1) * 31 + 1);
        tells("c", 9, 118, ((3 * 31 + 2) * 31 + 1) * 31 + 1);
    }

    private static void tellRefusals() {
        d.part("30: UNKNOWN");
        e.people("tell", TownLisp::tell, TownLisp.UNKNOWN);
    }

    private static void callEdges() {
        d.part("CALLED by a lent body (4): its number; a CHILD has its own (5): 30");
        TownLisp x = Dues.townOf("t00;o0011;s0010;c0011;o0010;c0010;s0011");
        int[] due = {0, 1, 30, 3, 30, 5};
        int trace = 0;
        for (int p = 0; p < 6; p++) {
            d.due("call " + p, x.call(p), due[p]);
            trace = 31 * trace + (due[p] == 30 ? 5 : 4);
            d.due("trace", x.trace(), trace);
        }
    }

    private static void callRefusals() {
        d.part("31: UNKNOWN");
        e.people("call", TownLisp::call, TownLisp.UNKNOWN);
    }

    private static void asEdges() {
        d.part("32: CAST: it is none (each is a GROWN one, too; a CHILD is a SHY one)");
        int[][] kinds = {{0, 0}, {1, 0}, {1, 1}, {2, 0}, {2, 1}, {2, 2}};
        int[] person = {3, 1, 2};
        for (int[] row : kinds) {
            e.leaves(row[0] + " as " + row[1], Edges::busy, x -> x.as(person[row[0]], row[1]), 1, 0);
        }
        int[][] none = {{0, 1}, {0, 2}, {1, 2}};
        for (int[] row : none) {
            e.leaves(row[0] + " as " + row[1], Edges::busy, x -> x.as(person[row[0]], row[1]), -12, 2);
        }
    }

    private static void asRefusals() {
        d.part("32: UNKNOWN; OUTSIDE; CAST");
        e.people("as", (x, p) -> x.as(p, 2), TownLisp.UNKNOWN, 0);
        e.range("kind of a grown one", Edges::busy, (x, kind) -> x.as(0, kind), 0, 2, TownLisp.OUTSIDE, 0);
        e.range("kind of a child", Edges::busy, (x, kind) -> x.as(2, kind), 0, 2, TownLisp.OUTSIDE, 0);
        e.leaves("unknown first", Edges::busy, x -> x.as(5, 3), TownLisp.UNKNOWN, 0);
    }

    // ---- TRACE, fault, many

    private static void traceWraps() {
        d.part("TRACE (an int that wraps, 0 at first)");
        TownLisp x = Dues.townOf("t00;o0011;s0010;c0011");
        int trace = 0;
        boolean wrapped = false;
        for (int turn = 0; turn < 40; turn++) {
            d.due("ahead of turn " + turn, x.trace(), trace);
            x.call(2);
            wrapped |= trace < 0;
            trace = 31 * trace + 5;
        }
        d.holds("it went below 0", wrapped);
        TownLisp seven = Dues.townOf("t00;o0011;s0010;c0011");
        for (int turn = 0; turn < 7; turn++) {
            seven.call(2);
        }
        // 5 times (31^7 - 1) / 30 is 4585435685, of which 4294967296 are cut.
        d.due("the first that wraps", seven.trace(), 290468389);
    }

    private static void traceAlone() {
        d.part("33: asking leaves TRACE");
        e.leaves("trace()", Edges::busy, TownLisp::trace, ((3 * 31 + 2) * 31 + 1) * 31 + 1);
    }

    private static void faultAheadOfAny() {
        d.part("34: (0 ahead of any)");
        TownLisp x = new TownLisp();
        d.due("a new one", x.fault(), 0);
        x.lose(0);
        x.day(0);
        x.cell(0, 0, 0);
        d.due("behind the first", x.fault(), 1);
    }

    private static void faultOfTheLatest() {
        d.part("34: The FAULT of the latest call that names one: 0: it came to none, or was refused");
        TownLisp x = Edges.busy();
        d.due("index", x.fault(), 3);
        d.due("null", x.put(3, 0, 0), -11);
        d.due("null", x.fault(), 1);
        d.due("cast", x.as(0, 2), -12);
        d.due("cast", x.fault(), 2);
        d.due("size", x.sheet(3, 0, -1), -14);
        d.due("size", x.fault(), 4);
        d.due("it came to none", x.put(0, 0, 't'), 1);
        d.due("it came to none", x.fault(), 0);
        x.put(3, 0, 0);
        d.due("refused", x.put(4, 0, 0), TownLisp.UNKNOWN);
        d.due("refused", x.fault(), 0);
        x.put(3, 0, 0);
        d.due("refused, by state", Edges.bare().heard(0), TownLisp.STATE);
        d.due("another object's", x.fault(), 1);
        d.due("a text that is taken", x.town(0, BYTES, 0, 15), 2);
        d.due("a text that is taken", x.fault(), 0);
    }

    private static void faultIsLeft() {
        d.part("34: asking leaves fault(), and so do calls that name none");
        e.leaves("fault()", Edges::busy, TownLisp::fault, 3);
        TownLisp x = Edges.busy();
        long[] answers = {
            x.ofPerson(0, 0), x.tune(0, 3), x.heard(0), x.day(0), x.leave(0), x.come(0), x.gather(0), x.pack(1, 1),
            x.open(0), x.asked(0, 0, 0), x.gatherings(0, 0), x.level(0), x.were(0, 0, 0), x.rounds(1, 0),
            x.worth(0, 0), x.mean(0), x.reading(0, 0, 0), x.back(1), x.ears(0), x.kinds(0), x.odds(0, 0, 0),
            x.lose(0), x.tell(0), x.call(0), x.many(0),
        };
        for (int k = 0; k < answers.length; k++) {
            d.holds("taken " + k + ": " + answers[k], answers[k] >= 0);
        }
        d.holds("trace", x.trace() != 0);
        d.due("fault()", x.fault(), 3);
    }

    private static void manyEdges() {
        d.part("35: How many: 3 DAYS that have gone (by day()), 4 READINGS");
        TownLisp x = Edges.busy();
        int[] due = {5, 7, 4, 1, 3};
        for (int what = 0; what < 5; what++) {
            d.due("what " + what, x.many(what), due[what]);
        }
        x.year(1, INTS, 0, 3, 0);
        d.due("a day of a year", x.many(3), 1);
        x.day(5);
        d.due("a day that was refused", x.many(3), 1);
        x.day(2);
        d.due("one more", x.many(3), 2);
        TownLisp full = Dues.townOf("t49;o3911;o3911;o3911;o3911;o3911;o3911");
        int[] most = {6, 49, 6, 0, 0};
        for (int what = 0; what < 5; what++) {
            d.due("of six, what " + what, full.many(what), most[what]);
        }
        d.due("nobody is in", Edges.deserted().many(2), 0);
    }

    private static void manyRefusals() {
        d.part("35: (0 all without a TOWN). OUTSIDE");
        e.range("what", Edges::busy, TownLisp::many, 0, 4, TownLisp.OUTSIDE);
        e.range("what, no town", Edges::bare, TownLisp::many, 0, 4, TownLisp.OUTSIDE);
        for (int what = 0; what < 5; what++) {
            int w = what;
            e.leaves("no town, what " + what, Edges::bare, x -> x.many(w), 0);
        }
    }
}
