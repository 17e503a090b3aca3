/** Promises 6 to 12: a test of its own for each edge that the document names of DAYS, acts and YEARS. */
public final class ActsEdgesTest {
    private static final int DAY = 0, LEAVES = 1, COMES = 2, GATHERING = 3, OPENS = 4;
    private static final Dues d = new Dues();
    private static final Edges e = new Edges(d);

    public static void main(String[] args) {
        dayQuotient();
        dayLeftOver();
        dayBehindTheLast();
        dayOfThoseWhoAreIn();
        dayRefusals();
        leaveRoundAndRound();
        leaveFromNumber0();
        leaveTheLast();
        leaveRefusals();
        comeEdges();
        comeRefusals();
        gatherEdges();
        gatherRefusals();
        packEdges();
        packRefusals();
        openEdges();
        openRefusals();
        yearOfNoPairs();
        yearOfMostPairs();
        yearChangesNothing();
        yearWhats();
        firstWrongOfEachAct();
        firstWrongIsTheFirst();
        yearRefusals();
        yearFaults();
        yearTakesNoCells();
        yearOfCutCells();
        yearWithoutATown();
        yearPairs();
        aLifeOf512Calls();
        d.end();
    }

    private static void town(String when, TownLisp x, int tin, int inside, int... parts) {
        d.due(when + ": tin", x.many(1), tin);
        d.due(when + ": who is in", x.heard(1), inside);
        for (int p = 0; p < parts.length; p++) {
            d.due(when + ": parts of " + p, x.ofPerson(p, 1), parts[p]);
        }
    }

    // ---- DAYS

    private static void dayQuotient() {
        d.part("each has as many, the quotient");
        TownLisp none = Dues.townOf("t09;o0011;o0011;o0011");
        d.due("no parts", none.day(2), 0);
        town("no parts", none, 9, 7, 0, 0, 0);
        d.due("it has gone, too", none.many(3), 1);
        TownLisp few = Dues.townOf("t09;o0011;o0211;o0011");
        d.due("one part fewer than people", few.day(0), 0);
        town("fewer", few, 9, 7, 1, 1, 0);
        TownLisp just = Dues.townOf("t09;o0311;o0011;o0011");
        d.due("as many as people", just.day(0), 1);
        town("as many", just, 9, 7, 1, 1, 1);
        TownLisp most = Dues.townOf("t09;o3911;o3911;o3911;o3911;o3911;o3911");
        most.open(4);
        d.due("most", most.day(4), 40);
        town("most", most, 0, 63, 41, 40, 40, 40, 41, 41);
        d.due("days that have gone", most.many(3), 1);
    }

    private static void dayLeftOver() {
        d.part("what is left over goes, 1 each, to those who are IN, from that PERSON on");
        for (int left = 0; left < 4; left++) {
            for (int from = 0; from < 4; from++) {
                TownLisp x = Dues.townOf("t00;o0" + (4 + left) + "11;o0011;o0011;o0011");
                d.due("left over " + left + " from " + from, x.day(from), 1);
                for (int p = 0; p < 4; p++) {
                    boolean more = (p - from + 4) % 4 < left;
                    d.due("parts of " + p, x.ofPerson(p, 1), more ? 2 : 1);
                }
            }
        }
    }

    private static void dayBehindTheLast() {
        d.part("(behind the last number comes 0)");
        TownLisp two = Dues.townOf("t00;o0311;o0011");
        d.due("of two, from 1", two.day(1), 1);
        town("of two", two, 0, 3, 1, 2);
        TownLisp five = Dues.townOf("t00;o0711;o0011;o0011;o0011;o0011");
        d.due("of five, from 4", five.day(4), 1);
        town("of five", five, 0, 31, 2, 1, 1, 1, 2);
        TownLisp six = Dues.townOf("t00;o0811;o0011;o0011;o0011;o0011;o0011");
        d.due("of six, from 5", six.day(5), 1);
        town("of six", six, 0, 63, 2, 1, 1, 1, 1, 2);
        TownLisp lastIsOut = Dues.townOf("t00;o0411;o0011;o0011;o0010");
        d.due("from the last, who is not in", lastIsOut.day(3), 1);
        town("who is not in", lastIsOut, 0, 7, 2, 1, 1, 0);
        TownLisp firstIsOut = Dues.townOf("t00;o0010;o0511;o0011;o0011");
        d.due("behind the last one who is not in", firstIsOut.day(3), 1);
        town("the next who is in", firstIsOut, 0, 14, 0, 2, 1, 2);
    }

    private static void dayOfThoseWhoAreIn() {
        d.part("all PARTS of those who are IN are shared evenly among them");
        TownLisp alone = Dues.townOf("t05;o3910;o0711;o3910");
        d.due("one alone", alone.day(0), 7);
        town("one alone", alone, 5, 2, 39, 7, 39);
        TownLisp two = Dues.townOf("t05;o0311;o3910;o0011");
        d.due("from one who is not in", two.day(1), 1);
        town("from one who is not in", two, 5, 5, 1, 39, 2);
    }

    private static void dayRefusals() {
        d.part("6: UNKNOWN; STATE: nobody is IN");
        e.people("day", TownLisp::day, TownLisp.UNKNOWN);
        e.leaves("nobody is in", Edges::deserted, x -> x.day(0), TownLisp.STATE);
        e.leaves("nobody is in, the last", Edges::deserted, x -> x.day(2), TownLisp.STATE);
        e.leaves("unknown first", Edges::deserted, x -> x.day(3), TownLisp.UNKNOWN);
    }

    // ---- LEAVING, COMING

    private static void leaveRoundAndRound() {
        d.part("the PARTS one has go, 1 each, round and round, until none is left");
        int[][] due = {{0, 0}, {1, 0}, {1, 1}, {2, 1}, {2, 2}, {3, 2}};
        for (int had = 0; had < due.length; had++) {
            TownLisp x = Dues.townOf("t05;o0011;o0" + had + "11;o0011;o0910");
            d.due("with " + had, x.leave(1), had);
            town("with " + had, x, 5, 5, due[had][0], 0, due[had][1], 9);
        }
        TownLisp one = Dues.townOf("t05;o3911;o3911;o3910");
        d.due("to one alone", one.leave(0), 39);
        town("to one alone", one, 5, 2, 0, 78, 39);
    }

    private static void leaveFromNumber0() {
        d.part("to those who are IN yet, from number 0 on");
        TownLisp last = Dues.townOf("t05;o0011;o0011;o0011;o0111");
        d.due("the last", last.leave(3), 1);
        town("the last", last, 5, 7, 1, 0, 0, 0);
        TownLisp middle = Dues.townOf("t05;o0010;o0011;o0211;o0011;o0011");
        d.due("the middle one", middle.leave(2), 2);
        town("the middle one", middle, 5, 26, 0, 1, 0, 1, 0);
        TownLisp first = Dues.townOf("t05;o0111;o0011;o0011");
        d.due("the first", first.leave(0), 1);
        town("the first", first, 5, 6, 0, 1, 0);
    }

    private static void leaveTheLast() {
        d.part("into the TIN, if nobody is IN");
        TownLisp x = Dues.townOf("t49;o3910;o3911");
        d.due("the last who is in", x.leave(1), 39);
        town("the last who is in", x, 88, 0, 39, 0);
        TownLisp none = Dues.townOf("t00;o3910;o0011");
        d.due("with none", none.leave(1), 0);
        town("with none", none, 0, 0, 39, 0);
        d.due("it comes again", none.come(1), 1);
        town("it comes again", none, 0, 2, 39, 0);
    }

    private static void leaveRefusals() {
        d.part("7: UNKNOWN; STATE: it is not IN");
        e.people("leave", TownLisp::leave, TownLisp.UNKNOWN);
        e.leaves("it is not in", Edges::busy, x -> x.leave(2), TownLisp.STATE);
        e.leaves("nobody is", Edges::deserted, x -> x.leave(0), TownLisp.STATE);
        TownLisp x = Dues.townOf(Edges.FIVE);
        d.due("it leaves", x.leave(0), 12);
        d.due("it has left", x.leave(0), TownLisp.STATE);
    }

    private static void comeEdges() {
        d.part("One who COMES is IN (with what one has): how many are IN");
        TownLisp x = Dues.townOf("t05;o0110;o0210;o0310;o0410;o0510;o0610");
        for (int p = 0; p < 6; p++) {
            d.due("it comes", x.come(p), p + 1);
            town("it comes", x, 5, (2 << p) - 1, 1, 2, 3, 4, 5, 6);
        }
    }

    private static void comeRefusals() {
        d.part("8: UNKNOWN; STATE: it is IN");
        e.people("come", TownLisp::come, TownLisp.UNKNOWN);
        e.leaves("it is in", Edges::busy, x -> x.come(0), TownLisp.STATE);
        TownLisp x = Dues.townOf(Edges.FIVE);
        d.due("it comes", x.come(2), 5);
        d.due("it has come", x.come(2), TownLisp.STATE);
    }

    // ---- GATHERINGS, the TIN

    private static void gatherEdges() {
        d.part("each other one who is IN and has any PARTS gives 1 to that one");
        TownLisp x = Dues.townOf("t05;o0011;o0111;o0211;o0910;o0011;o0311");
        d.due("round one with none", x.gather(0), 3);
        town("round 0", x, 5, 55, 3, 0, 1, 9, 0, 2);
        d.due("again", x.gather(0), 2);
        town("again", x, 5, 55, 5, 0, 0, 9, 0, 1);
        d.due("one gives", x.gather(0), 1);
        d.due("none gives", x.gather(0), 0);
        town("none gives", x, 5, 55, 6, 0, 0, 9, 0, 0);
        TownLisp alone = Dues.townOf("t05;o0510;o0111;o0910");
        d.due("one alone", alone.gather(1), 0);
        town("one alone", alone, 5, 2, 5, 1, 9);
        TownLisp six = Dues.townOf("t05;o0111;o0111;o0111;o0111;o0111;o0111");
        d.due("all of six", six.gather(5), 5);
        town("all of six", six, 5, 63, 0, 0, 0, 0, 0, 6);
    }

    private static void gatherRefusals() {
        d.part("9: UNKNOWN; STATE: it is not IN");
        e.people("gather", TownLisp::gather, TownLisp.UNKNOWN);
        e.leaves("it is not in", Edges::busy, x -> x.gather(2), TownLisp.STATE);
        e.leaves("nobody is", Edges::deserted, x -> x.gather(0), TownLisp.STATE);
        e.leaves("none gives", () -> Dues.townOf("t05;o0511;o0011;o0910"), x -> x.gather(0), 0);
    }

    /** PERSON 0 has 100 PARTS, the TIN is empty; its latest FAULT is NULL. */
    private static TownLisp rich() {
        TownLisp x = Dues.townOf("t49;o2711;o2411;o0010");
        x.leave(1);
        x.open(0);
        x.put(0, 0, 0);
        return x;
    }

    private static void packEdges() {
        d.part("One PACKS PARTS into the TIN (IN or not)");
        TownLisp x = rich();
        d.due("one", x.pack(0, 1), 1);
        town("one", x, 1, 1, 99, 0, 0);
        d.due("all 99", x.pack(0, 99), 100);
        town("all 99", x, 100, 1, 0, 0, 0);
        TownLisp out = Dues.townOf("t49;o3910;o0011");
        d.due("one who is not in, but 1", out.pack(0, 38), 87);
        d.due("and 1", out.pack(0, 1), 88);
        town("one who is not in", out, 88, 2, 0, 0);
    }

    private static void packRefusals() {
        d.part("10: n PARTS (1 .. 99). UNKNOWN; OUTSIDE; STATE: it has not so many");
        e.people("pack", (x, p) -> x.pack(p, 1), TownLisp.UNKNOWN);
        e.range("n", ActsEdgesTest::rich, (x, n) -> x.pack(0, n), 1, 99, TownLisp.OUTSIDE);
        e.leaves("unknown first", Edges::busy, x -> x.pack(5, 0), TownLisp.UNKNOWN);
        e.leaves("outside ahead of state", ActsEdgesTest::rich, x -> x.pack(2, 100), TownLisp.OUTSIDE);
        e.leaves("outside ahead of state", ActsEdgesTest::rich, x -> x.pack(2, 0), TownLisp.OUTSIDE);
        e.leaves("it has none", ActsEdgesTest::rich, x -> x.pack(2, 1), TownLisp.STATE);
        e.leaves("one more than it has", Edges::busy, x -> x.pack(2, 10), TownLisp.STATE);
        TownLisp just = Edges.busy();
        d.due("as many as it has", just.pack(2, 9), 16);
    }

    private static void openEdges() {
        d.part("one who is IN OPENS it: all that is in it goes to that one");
        TownLisp one = Dues.townOf("t01;o0011;o0011");
        d.due("one part", one.open(1), 1);
        town("one part", one, 0, 3, 0, 1);
        TownLisp most = Dues.townOf("t49;o3911;o3911");
        most.pack(0, 39);
        d.due("88 parts", most.open(0), 88);
        town("88 parts", most, 0, 3, 88, 39);
    }

    private static void openRefusals() {
        d.part("11: UNKNOWN; STATE: it is not IN, the TIN is empty");
        e.people("open", TownLisp::open, TownLisp.UNKNOWN);
        e.leaves("it is not in", Edges::busy, x -> x.open(2), TownLisp.STATE);
        e.leaves("the tin is empty", ActsEdgesTest::rich, x -> x.open(0), TownLisp.STATE);
        e.leaves("both", ActsEdgesTest::rich, x -> x.open(1), TownLisp.STATE);
        e.leaves("unknown first", ActsEdgesTest::rich, x -> x.open(3), TownLisp.UNKNOWN);
    }

    // ---- YEARS

    private static int year(TownLisp x, int what, int... pairs) {
        Dues.write(x, 1, Dues.INTS, pairs);
        return x.year(1, Dues.INTS, 0, pairs.length / 2, what);
    }

    private static void yearOfNoPairs() {
        d.part("a YEAR of n pairs (0 ..): from how all is now");
        int[] whats = {0, 1, 2, 3, 10, 11, 12, 13, 14, 15};
        int[] due = {7, TownLisp.NONE, 27, 9, 12, 7, 9, 0, 22, TownLisp.NONE};
        for (int w = 0; w < whats.length; w++) {
            d.due("what " + whats[w], year(Dues.townOf(Edges.FIVE), whats[w]), due[w]);
        }
        d.due("nobody is in", year(Edges.deserted(), 1), TownLisp.NONE);
        d.due("nobody is in, they say", year(Edges.deserted(), 3), 0);
    }

    private static void yearOfMostPairs() {
        d.part("a YEAR of n pairs (.. 20)");
        int[] most = new int[40];
        for (int k = 0; k < 20; k++) {
            most[2 * k] = 1;
            most[2 * k + 1] = k % 2 == 0 ? LEAVES : COMES;
        }
        TownLisp x = Dues.townOf("t00;o0011;o0911");
        d.due("20 acts", year(x, 1, most), TownLisp.NONE);
        d.due("20 acts, who is in", year(x, 2, most), 3);
        d.due("20 acts, parts", year(x, 10, most), 9);
        most[39] = LEAVES;
        most[37] = COMES;
        d.due("the 19th can't be", year(x, 1, most), 18);
        most[37] = LEAVES;
        d.due("the 20th can't be", year(x, 1, most), 19);
        d.due("-100 less it", year(x, 0, most), -119);
        int[] row = new int[60];
        Dues.write(x, 2, Dues.BYTES, row);
        d.due("the last 40 of 60", x.year(2, Dues.BYTES, 20, 20, 10), 5);
        d.due("a cell beyond", x.year(2, Dues.BYTES, 21, 20, 10), -13);
    }

    private static void yearChangesNothing() {
        d.part("(nothing is changed)");
        e.leaves("a day, one leaves, one comes", Edges::busy, x -> x.year(1, Dues.INTS, 0, 3, 2), 29, 0);
        e.leaves("and what 0", Edges::busy, x -> x.year(1, Dues.INTS, 0, 3, 0), 7, 0);
        e.leaves("a first wrong", () -> {
            TownLisp x = Edges.busy();
            x.put(1, 5, LEAVES);
            x.put(0, -1, 0);
            return x;
        }, x -> x.year(1, Dues.INTS, 0, 3, 0), -102, 0);
        TownLisp x = Dues.townOf(Edges.FIVE);
        year(x, 0, 0, DAY, 0, OPENS, 0, GATHERING, 0, LEAVES, 2, COMES);
        town("behind all acts", x, 7, 27, 12, 7, 9, 0, 22);
        d.due("no day has gone", x.many(3), 0);
    }

    private static void yearWhats() {
        d.part("PARTS of PERSON p then (10 and p; NONE: there is no such one)");
        TownLisp two = Dues.townOf("t05;o0111;c0321");
        int[] due = {0, 9, TownLisp.NONE, TownLisp.NONE, TownLisp.NONE, TownLisp.NONE};
        for (int p = 0; p < 6; p++) {
            d.due("of two " + p, year(two, 10 + p, 0, LEAVES, 1, OPENS), due[p]);
        }
        d.due("what all who are in say then", year(two, 3, 0, LEAVES, 1, OPENS), 8);
        d.due("who is in then", year(two, 2, 0, LEAVES, 1, OPENS), 2);
        d.due("in the tin then", year(two, 0, 0, LEAVES, 1, LEAVES), 9);
        d.due("nobody is in then", year(two, 2, 0, LEAVES, 1, LEAVES), 0);
        d.due("nobody says any then", year(two, 3, 0, LEAVES, 1, LEAVES), 0);
        TownLisp six = Dues.townOf("t05;o0111;o0111;o0111;o0111;o0111;o0811");
        d.due("of six, the last", year(six, 15, 5, DAY), 3);
        d.due("of six, the one ahead", year(six, 14, 5, DAY), 2);
        d.due("with a first wrong", year(two, 15, 0, COMES), -100);
    }

    private static void firstWrongOfEachAct() {
        d.part("FIRST WRONG: the first act that can't be");
        TownLisp x = Dues.townOf("t00;o0111;o0310");
        d.due("leaves, not in", year(x, 1, 1, LEAVES), 0);
        d.due("leaves, in", year(x, 1, 0, LEAVES), TownLisp.NONE);
        d.due("comes, in", year(x, 1, 0, COMES), 0);
        d.due("comes, not in", year(x, 1, 1, COMES), TownLisp.NONE);
        d.due("a gathering, not in", year(x, 1, 1, GATHERING), 0);
        d.due("a gathering, in, none gives", year(x, 1, 0, GATHERING), TownLisp.NONE);
        d.due("opens, an empty tin", year(x, 1, 0, OPENS), 0);
        d.due("opens, not in, an empty tin", year(x, 1, 1, OPENS), 0);
        d.due("a day from one who is not in", year(x, 1, 1, DAY), TownLisp.NONE);
        d.due("a day, nobody is in", year(x, 1, 0, LEAVES, 0, DAY), 1);
        d.due("the tin is full then", year(x, 1, 0, LEAVES, 1, COMES, 1, OPENS), TownLisp.NONE);
        d.due("opened twice", year(x, 1, 0, LEAVES, 1, COMES, 1, OPENS, 1, OPENS), 3);
        TownLisp tin = Dues.townOf("t01;o0111;o0310");
        d.due("opens, not in", year(tin, 1, 1, OPENS), 0);
        d.due("opens, in", year(tin, 1, 0, OPENS), TownLisp.NONE);
    }

    private static void firstWrongIsTheFirst() {
        d.part("of one with a FIRST WRONG: -100 less that (but what 1)");
        TownLisp x = Dues.townOf(Edges.FIVE);
        int[] pairs = {0, DAY, 0, COMES, 1, COMES, 0, DAY};
        d.due("what 1", year(x, 1, pairs), 1);
        for (int what : new int[] {0, 2, 3, 10, 14, 15}) {
            d.due("what " + what, year(x, what, pairs), -101);
        }
        d.due("fault()", x.fault(), 0);
        d.due("fewer pairs are not wrong", x.year(1, Dues.INTS, 0, 1, 0), 7);
    }

    private static void yearRefusals() {
        d.part("12: UNKNOWN: SHEET; OUTSIDE: lane, n (0 .. 20), what (0 .. 3, 10 .. 15)");
        e.range("sheet", Edges::busy, (x, k) -> x.year(k, 2, 0, 3, 0), 0, 3, TownLisp.UNKNOWN, 0);
        e.range("lane", Edges::busy, (x, lane) -> x.year(1, lane, 0, 3, 0), 0, 2, TownLisp.OUTSIDE, 0);
        e.range("n", Edges::busy, (x, n) -> x.year(1, 2, 0, n, 0), 0, 20, TownLisp.OUTSIDE, 0);
        e.range("what", Edges::busy, (x, what) -> x.year(1, 2, 0, 3, what), 0, 3, TownLisp.OUTSIDE, 0);
        e.range("what", Edges::busy, (x, what) -> x.year(1, 2, 0, 3, what), 10, 15, TownLisp.OUTSIDE, 0);
        e.leaves("unknown first", Edges::busy, x -> x.year(4, 3, -1, 21, 4), TownLisp.UNKNOWN, 0);
        e.leaves("then lane, of nothing", Edges::busy, x -> x.year(3, 3, -1, 3, 0), TownLisp.OUTSIDE, 0);
        e.leaves("then n, of nothing", Edges::busy, x -> x.year(3, 2, -1, 21, 0), TownLisp.OUTSIDE, 0);
        e.leaves("n below 0 is no size", Edges::busy, x -> x.year(1, 2, 0, -1, 0), TownLisp.OUTSIDE, 0);
        e.leaves("then what, of another lane", Edges::busy, x -> x.year(1, 1, -1, 3, 9), TownLisp.OUTSIDE, 0);
    }

    private static void yearFaults() {
        d.part("12: FAULTS CAST, NULL, INDEX");
        e.leaves("cast", Edges::busy, x -> x.year(1, 1, 0, 3, 0), -12, 2);
        e.leaves("cast ahead of index", Edges::busy, x -> x.year(1, 0, -1, 3, 0), -12, 2);
        for (int lane = 0; lane < 3; lane++) {
            int l = lane;
            e.leaves("nothing is no cast, lane " + lane, Edges::busy, x -> x.year(3, l, -1, 3, 0), -11, 1);
        }
        e.leaves("a pair beyond", Edges::busy, x -> x.year(1, 2, 0, 4, 0), -13, 3);
        e.leaves("a cell beyond", Edges::busy, x -> x.year(1, 2, 1, 3, 0), -13, 3);
        e.leaves("half of a pair", Edges::busy, x -> x.year(1, 2, 5, 1, 0), -13, 3);
        e.range("one pair, from", Edges::busy, (x, i) -> x.year(1, 2, i, 1, 0), 0, 4, -13, 3);
        e.leaves("index ahead of its pairs", Edges::busy, x -> x.year(0, 0, 0, 8, 0), -13, 3);
    }

    private static void yearTakesNoCells() {
        d.part("12: INDEX also where i is not 0 .. how many there are, if none of them is taken, too");
        e.leaves("at the end", Edges::busy, x -> x.year(1, 2, 6, 0, 0), 7, 0);
        e.range("none, from", Edges::busy, (x, i) -> x.year(1, 2, i, 0, 0), 0, 6, -13, 3);
        e.leaves("of an empty row", Edges::busy, x -> x.year(2, 1, 0, 0, 0), 7, 0);
        e.range("none of an empty row, from", Edges::busy, (x, i) -> x.year(2, 1, i, 0, 0), 0, 0, -13, 3);
    }

    private static void yearOfCutCells() {
        d.part("12: pairs that are cells of a SHEET, cut to its LANE");
        int[] wraps = {256, 65536};
        for (int lane = 0; lane < 2; lane++) {
            TownLisp x = Dues.townOf(Edges.FIVE);
            Dues.write(x, 0, lane, wraps[lane], wraps[lane] + LEAVES);
            d.due("lane " + lane + ", cut", x.year(0, lane, 0, 1, 2), 26);
            Dues.write(x, 0, lane + 1, wraps[lane], LEAVES);
            d.due("lane " + lane + " and 1, no person", x.year(0, lane + 1, 0, 1, 2), TownLisp.UNKNOWN);
            Dues.write(x, 0, lane + 1, 0, wraps[lane] + LEAVES);
            d.due("lane " + lane + " and 1, no act", x.year(0, lane + 1, 0, 1, 2), TownLisp.OUTSIDE);
        }
    }

    private static TownLisp bareWithPairs() {
        TownLisp x = new TownLisp();
        Dues.write(x, 1, Dues.INTS, 0, DAY, 9, 9);
        x.put(0, 0, 0);
        return x;
    }

    private static void yearWithoutATown() {
        d.part("12: STATE: there is no TOWN");
        e.leaves("no pairs", ActsEdgesTest::bareWithPairs, x -> x.year(1, 2, 0, 0, 1), TownLisp.STATE, 0);
        e.leaves("ahead of its pairs", ActsEdgesTest::bareWithPairs, x -> x.year(1, 2, 2, 1, 1), TownLisp.STATE, 0);
        e.leaves("behind unknown", ActsEdgesTest::bareWithPairs, x -> x.year(4, 2, 0, 1, 1), TownLisp.UNKNOWN, 0);
        e.leaves("behind outside", ActsEdgesTest::bareWithPairs, x -> x.year(1, 2, 0, 1, 4), TownLisp.OUTSIDE, 0);
        e.leaves("behind cast", ActsEdgesTest::bareWithPairs, x -> x.year(1, 1, 0, 1, 1), -12, 2);
        e.leaves("behind nothing", ActsEdgesTest::bareWithPairs, x -> x.year(0, 2, 0, 1, 1), -11, 1);
        e.leaves("behind index", ActsEdgesTest::bareWithPairs, x -> x.year(1, 2, 0, 3, 1), -13, 3);
    }

    private static TownLisp withPairs(int... pairs) {
        TownLisp x = Edges.busy();
        Dues.write(x, 1, Dues.INTS, pairs);
        x.put(0, -1, 0);
        return x;
    }

    private static void yearPairs() {
        d.part("12: pair by pair UNKNOWN: the first is no PERSON; OUTSIDE: the second is none of 0 .. 4");
        d.due("the first person", withPairs(0, DAY).year(1, 2, 0, 1, 1), TownLisp.NONE);
        d.due("the last person", withPairs(4, DAY).year(1, 2, 0, 1, 1), TownLisp.NONE);
        d.due("the last act", withPairs(0, OPENS).year(1, 2, 0, 1, 1), TownLisp.NONE);
        for (int v : new int[] {Integer.MIN_VALUE, -1, 5, Integer.MAX_VALUE}) {
            e.leaves("person " + v, () -> withPairs(v, DAY), x -> x.year(1, 2, 0, 1, 0), TownLisp.UNKNOWN, 0);
            e.leaves("act " + v, () -> withPairs(0, v), x -> x.year(1, 2, 0, 1, 0), TownLisp.OUTSIDE, 0);
        }
        for (int what : new int[] {0, 1, 2, 3, 10, 15}) {
            e.leaves("no person", () -> withPairs(5, DAY), x -> x.year(1, 2, 0, 1, what), TownLisp.UNKNOWN, 0);
            e.leaves("no act", () -> withPairs(0, 5), x -> x.year(1, 2, 0, 1, what), TownLisp.OUTSIDE, 0);
        }
        pairs("neither", TownLisp.UNKNOWN, -1, -1);
        pairs("outside in the pair ahead", TownLisp.OUTSIDE, 0, 5, 5, DAY);
        pairs("unknown in the pair ahead", TownLisp.UNKNOWN, 5, DAY, 0, 5);
        pairs("ahead of a first wrong", TownLisp.UNKNOWN, 5, DAY, 0, COMES);
        pairs("behind a first wrong", TownLisp.UNKNOWN, 0, COMES, 5, DAY);
        pairs("behind a first wrong", TownLisp.OUTSIDE, 0, COMES, 0, 5);
        e.leaves("behind the last pair", () -> withPairs(0, DAY, 5, 5), x -> x.year(1, 2, 0, 1, 0), 7, 0);
        e.leaves("ahead of the first pair", () -> withPairs(5, 5, 0, DAY), x -> x.year(1, 2, 2, 1, 0), 7, 0);
    }

    private static void pairs(String what, int due, int... pairs) {
        for (int asked : new int[] {0, 1}) {
            e.leaves(what, () -> withPairs(pairs), x -> x.year(1, 2, 0, pairs.length / 2, asked), due, 0);
        }
    }

    private static void aLifeOf512Calls() {
        d.part("An object is used for at most 512 calls");
        TownLisp x = Dues.townOf("t49;o3911;o3911");
        // The text has been 18 calls: one for the row, 15 codes, the town, the sheet lost; the last call is many's.
        int days = 512 - 18 - 1;
        for (int day = 0; day < days; day++) {
            x.day(day % 2);
        }
        d.due("days that have gone", x.many(3), days);
    }
}
