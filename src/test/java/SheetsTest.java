/** Promises 25 to 35: sheets, telling, tracing, faults, how many. */
public final class SheetsTest {
    private static final Dues d = new Dues();

    public static void main(String[] args) {
        promise25Sheet();
        promise26Lose();
        promise27Put();
        promise28Cell();
        promise29Copy();
        promise30Tell();
        promise31Call();
        promise32As();
        promise33Trace();
        promise34Fault();
        promise35Many();
        d.end();
    }

    private static void fault(TownLisp x, String what, long got, long want, int fault) {
        d.due(what, got, want);
        d.due(what + ": fault()", x.fault(), fault);
    }

    private static void promise25Sheet() {
        d.part("promise 25");
        TownLisp x = new TownLisp();
        fault(x, "new", x.sheet(0, 0, 60), 1, 0);
        fault(x, "its last", x.put(0, 59, 7), 1, 0);
        fault(x, "no sheet", x.sheet(4, 9, 61), TownLisp.UNKNOWN, 0);
        fault(x, "no sheet", x.sheet(-1, 0, -1), TownLisp.UNKNOWN, 0);
        fault(x, "size", x.sheet(0, 0, -1), -14, 4);
        fault(x, "lane 3 ahead of size", x.sheet(0, 3, -1), TownLisp.OUTSIDE, 0);
        fault(x, "size", x.sheet(0, 2, Integer.MIN_VALUE), -14, 4);
        fault(x, "lane -1", x.sheet(0, -1, 1), TownLisp.OUTSIDE, 0);
        fault(x, "n 61", x.sheet(0, 0, 61), TownLisp.OUTSIDE, 0);
        fault(x, "nothing is changed", x.cell(0, 59, 0), 7, 0);
        fault(x, "anew, of another lane", x.sheet(0, 2, 60), 1, 0);
        fault(x, "0 at first", x.cell(0, 59, 2), 0, 0);
        x.put(0, 1, 5);
        x.sheet(0, 2, 1);
        fault(x, "shorter", x.cell(0, 1, 2), TownLisp.LOST, 3);
        x.sheet(0, 2, 2);
        fault(x, "longer, 0 again", x.cell(0, 1, 2), 0, 0);
        fault(x, "empty", x.sheet(0, 1, 0), 1, 0);
        fault(x, "no cell", x.cell(0, 0, 1), TownLisp.LOST, 3);
        for (int k = 0; k < 4; k++) {
            fault(x, "each sheet", x.sheet(k, k % 3, 1), 1, 0);
            x.put(k, 0, 10 + k);
        }
        for (int k = 0; k < 4; k++) {
            fault(x, "each has its own", x.cell(k, 0, k % 3), 10 + k, 0);
        }
    }

    private static void promise26Lose() {
        d.part("promise 26");
        TownLisp x = new TownLisp();
        d.due("it had nothing", x.lose(0), 0);
        x.sheet(0, 0, 0);
        d.due("it had an empty row", x.lose(0), 1);
        fault(x, "nothing", x.put(0, 0, 0), -11, 1);
        d.due("again", x.lose(0), 0);
        d.due("no sheet 4", x.lose(4), TownLisp.UNKNOWN);
        d.due("no sheet -1", x.lose(-1), TownLisp.UNKNOWN);
        d.due("it names no fault", x.fault(), 1);
        Dues.write(x, 0, 2, 9);
        x.lose(0);
        x.sheet(0, 2, 1);
        d.due("a new row behind it", x.cell(0, 0, 2), 0);
    }

    private static void promise27Put() {
        d.part("promise 27");
        TownLisp x = new TownLisp();
        fault(x, "nothing ahead of index", x.put(0, -1, 0), -11, 1);
        x.sheet(0, 0, 3);
        x.sheet(1, 1, 3);
        x.sheet(2, 2, 3);
        fault(x, "a byte", x.put(0, 0, 200), 1, 0);
        fault(x, "cut", x.cell(0, 0, 0), -56, 0);
        fault(x, "a short", x.put(1, 2, 40000), 1, 0);
        fault(x, "cut", x.cell(1, 2, 1), -25536, 0);
        fault(x, "an int", x.put(2, 1, Integer.MIN_VALUE), 1, 0);
        fault(x, "as it is", x.cell(2, 1, 2), Integer.MIN_VALUE, 0);
        fault(x, "256", x.put(0, 1, 256), 1, 0);
        fault(x, "cut to 0", x.cell(0, 1, 0), 0, 0);
        fault(x, "65535", x.put(1, 0, 65535), 1, 0);
        fault(x, "cut to -1", x.cell(1, 0, 1), -1, 0);
        fault(x, "below 0", x.put(0, -1, 1), -13, 3);
        fault(x, "beyond", x.put(0, 3, 1), -13, 3);
        fault(x, "no sheet 4", x.put(4, 9, 1), TownLisp.UNKNOWN, 0);
        fault(x, "no sheet -1", x.put(-1, 0, 1), TownLisp.UNKNOWN, 0);
    }

    private static void promise28Cell() {
        d.part("promise 28");
        TownLisp x = new TownLisp();
        Dues.write(x, 0, 1, 1, -2, 3);
        fault(x, "cell 1", x.cell(0, 1, 1), -2, 0);
        fault(x, "below 0", x.cell(0, -1, 1), TownLisp.LOST, 3);
        fault(x, "beyond", x.cell(0, 3, 1), TownLisp.LOST, 3);
        fault(x, "cast ahead of index", x.cell(0, 3, 0), TownLisp.LOST, 2);
        fault(x, "cast", x.cell(0, 0, 2), TownLisp.LOST, 2);
        fault(x, "nothing is no cast", x.cell(1, 9, 2), TownLisp.LOST, 1);
        fault(x, "lane 3", x.cell(1, 9, 3), TownLisp.LOST, 0);
        fault(x, "nothing", x.cell(1, 0, 0), TownLisp.LOST, 1);
        fault(x, "lane -1", x.cell(0, 0, -1), TownLisp.LOST, 0);
        fault(x, "nothing", x.cell(1, 0, 0), TownLisp.LOST, 1);
        fault(x, "no sheet 4", x.cell(4, 0, 0), TownLisp.LOST, 0);
        fault(x, "nothing", x.cell(1, 0, 0), TownLisp.LOST, 1);
        fault(x, "no sheet -1", x.cell(-1, 0, 0), TownLisp.LOST, 0);
        Dues.write(x, 0, 0, 1);
        x.lose(0);
        fault(x, "lost, of whatever lane it was", x.cell(0, 0, 2), TownLisp.LOST, 1);
    }

    private static void cells(TownLisp x, String when, int k, int lane, int... due) {
        for (int i = 0; i < due.length; i++) {
            d.due(when + ": cell " + i, x.cell(k, i, lane), due[i]);
        }
    }

    private static void promise29Copy() {
        d.part("promise 29");
        TownLisp x = new TownLisp();
        Dues.write(x, 0, 2, 1, 2, 3, 4, 5);
        Dues.write(x, 1, 2, 9, 9, 9);
        fault(x, "to another", x.copy(0, 3, 1, 1, 2), 2, 0);
        cells(x, "to another", 1, 2, 9, 4, 5);
        fault(x, "to the same, upwards", x.copy(0, 0, 0, 1, 4), 4, 0);
        cells(x, "as they were", 0, 2, 1, 1, 2, 3, 4);
        fault(x, "to the same, downwards", x.copy(0, 1, 0, 0, 4), 4, 0);
        cells(x, "as they were", 0, 2, 1, 2, 3, 4, 4);
        fault(x, "none, at the ends", x.copy(0, 5, 1, 3, 0), 0, 0);
        fault(x, "all", x.copy(1, 0, 0, 2, 3), 3, 0);
        cells(x, "all", 0, 2, 1, 2, 9, 4, 5);
        cells(x, "the first is left", 1, 2, 9, 4, 5);
    }

    private static void promise30Tell() {
        d.part("promise 30");
        TownLisp x = Dues.townOf("t00;o0071;s0050;c0041");
        d.due("grown", x.tell(0), 7);
        d.due("trace", x.trace(), 1);
        TownLisp y = Dues.townOf("t00;o0071;s0050;c0041");
        d.due("shy", y.tell(1), 105);
        d.due("trace", y.trace(), 2 * 31 + 1);
        TownLisp z = Dues.townOf("t00;o0071;s0050;c0041");
        d.due("child", z.tell(2), 108);
        d.due("trace", z.trace(), ((3 * 31 + 2) * 31 + 1) * 31 + 1);
        z.tune(2, 9);
        d.due("tuned", z.tell(2), 118);
        int trace = z.trace();
        d.due("no person 3", z.tell(3), TownLisp.UNKNOWN);
        d.due("no person -1", z.tell(-1), TownLisp.UNKNOWN);
        d.due("no body began", z.trace(), trace);
    }

    private static void promise31Call() {
        d.part("promise 31");
        TownLisp x = Dues.townOf("t00;o0071;s0050;c0041;o0010");
        d.due("grown", x.call(0), 0);
        d.due("trace", x.trace(), 4);
        d.due("shy", x.call(1), 1);
        d.due("trace", x.trace(), 4 * 31 + 4);
        d.due("child", x.call(2), 30);
        d.due("trace", x.trace(), (4 * 31 + 4) * 31 + 5);
        d.due("grown", x.call(3), 3);
        int trace = x.trace();
        d.due("no person 4", x.call(4), TownLisp.UNKNOWN);
        d.due("no person -1", x.call(-1), TownLisp.UNKNOWN);
        d.due("no body began", x.trace(), trace);
    }

    private static void promise32As() {
        d.part("promise 32");
        TownLisp x = Dues.townOf("t00;o0071;s0050;c0041");
        for (int p = 0; p < 3; p++) {
            for (int kind = 0; kind < 3; kind++) {
                boolean is = kind <= p;
                fault(x, p + " as " + kind, x.as(p, kind), is ? 1 : -12, is ? 0 : 2);
            }
        }
        x.as(0, 2);
        fault(x, "kind 3", x.as(0, 3), TownLisp.OUTSIDE, 0);
        x.as(0, 2);
        fault(x, "kind -1", x.as(2, -1), TownLisp.OUTSIDE, 0);
        x.as(0, 2);
        fault(x, "no person 3", x.as(3, 3), TownLisp.UNKNOWN, 0);
        x.as(0, 2);
        fault(x, "no person -1", x.as(-1, 0), TownLisp.UNKNOWN, 0);
        d.due("kind is left", x.ofPerson(2, 0), 2);
        d.due("no body began", x.trace(), 0);
    }

    private static void promise33Trace() {
        d.part("promise 33");
        TownLisp x = Dues.townOf("t00;o0071;s0050;c0041");
        int[][] bodies = {{1}, {2, 1}, {3, 2, 1, 1}, {4}, {4}, {5}};
        int trace = 0;
        for (int turn = 0; turn < 60; turn++) {
            int which = turn % 6;
            if (which < 3) {
                x.tell(which);
            } else {
                x.call(which - 3);
            }
            for (int body : bodies[which]) {
                trace = 31 * trace + body;
            }
            d.due("trace, turn " + turn, x.trace(), trace);
        }
    }

    private static void promise34Fault() {
        d.part("promise 34");
        TownLisp x = Dues.townOf("t00;o0071;s0050;c0041");
        d.due("behind lose", x.fault(), 0);
        x.sheet(0, 0, -1);
        // None of these names a fault, whatever it answers.
        x.ofPerson(9, 9);
        x.tune(0, 0);
        x.heard(9);
        x.day(9);
        x.leave(9);
        x.come(0);
        x.gather(9);
        x.pack(0, 0);
        x.open(0);
        x.asked(0, 0, 0);
        x.gatherings(0, 0);
        x.level(0);
        x.were(0, 0, 0);
        x.rounds(0, 0);
        x.worth(9, 0);
        x.mean(9);
        x.reading(0, 0, 0);
        x.back(0);
        x.ears(0);
        x.kinds(0);
        x.odds(0, 0, 0);
        x.lose(0);
        x.tell(0);
        x.call(0);
        x.trace();
        x.many(0);
        d.due("of the latest that names one", x.fault(), 4);
        d.due("asking leaves it", x.fault(), 4);
        x.town(0, 0, 0, 0);
        d.due("town", x.fault(), 1);
        x.sheet(0, 0, 0);
        d.due("sheet came to none", x.fault(), 0);
        x.put(0, 0, 0);
        d.due("put", x.fault(), 3);
        x.town(0, 0, 0, 0);
        d.due("a text not taken is none", x.fault(), 0);
        x.as(0, 1);
        d.due("as", x.fault(), 2);
        x.year(0, 0, 0, 0, 0);
        d.due("year came to none", x.fault(), 0);
    }

    private static void promise35Many() {
        d.part("promise 35");
        TownLisp x = Dues.townOf("t42;o0071;s0050;c0041");
        x.day(1);
        x.day(1);
        x.day(3);
        x.reading(0, 0, 0);
        int[] due = {3, 42, 2, 2, 1};
        for (int what = 0; what < due.length; what++) {
            d.due("many " + what, x.many(what), due[what]);
            d.due("no town " + what, new TownLisp().many(what), 0);
        }
        for (TownLisp y : new TownLisp[] {x, new TownLisp()}) {
            d.due("what -1", y.many(-1), TownLisp.OUTSIDE);
            d.due("what 5", y.many(5), TownLisp.OUTSIDE);
        }
    }
}
