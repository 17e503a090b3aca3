/** Promises 13 to 17: a test of its own for each edge that the document names of who must be asked. */
public final class AskedEdgesTest {
    private static final String MOST = "t49;o3911;o3911;o3911;o3911;o3911;o3911";
    private static final Dues d = new Dues();
    private static final Edges e = new Edges(d);

    public static void main(String[] args) {
        askedHasSoMany();
        askedFewest();
        askedLeastParts();
        askedLeastSet();
        askedOfThoseWhoAreIn();
        askedMost();
        askedRefusals();
        gatheringsTill();
        gatheringsNever();
        gatheringsAsIfIn();
        gatheringsMost();
        gatheringsRefusals();
        levelGreatest();
        levelOfThoseWithMore();
        levelOfAnEmptyTin();
        levelMost();
        levelRefusals();
        wereJust();
        wereNone();
        wereOfAll();
        wereRefusals();
        roundsLastOneWins();
        roundsOfAnEmptyTin();
        roundsMost();
        roundsRefusals();
        d.end();
    }

    private static void asked(TownLisp x, int p, int v, int set, int parts) {
        d.due("asked " + p + " " + v + " set", x.asked(p, v, 0), set);
        d.due("asked " + p + " " + v + " parts", x.asked(p, v, 1), parts);
    }

    private static void askedHasSoMany() {
        d.part("13: so that it had v PARTS at least");
        TownLisp x = Dues.townOf(Edges.FIVE);
        asked(x, 0, 0, 0, 12);
        asked(x, 0, 11, 0, 12);
        asked(x, 0, 12, 0, 12);
        asked(x, 0, 13, 2, 19);
        asked(x, 0, 19, 2, 19);
        asked(x, 0, 20, 16, 34);
        asked(x, 0, 34, 16, 34);
        asked(x, 0, 35, 18, 41);
        asked(x, 0, 41, 18, 41);
        asked(x, 0, 42, TownLisp.NONE, TownLisp.NONE);
        asked(x, 3, 0, 0, 0);
        asked(x, 3, 1, 2, 7);
    }

    private static void askedFewest() {
        d.part("13: of those with the fewest");
        TownLisp x = Dues.townOf("t00;o0011;o0311;o0311;o3911");
        asked(x, 0, 3, 2, 3);
        asked(x, 0, 4, 8, 39);
        asked(x, 0, 6, 8, 39);
        asked(x, 0, 40, 10, 42);
    }

    private static void askedLeastParts() {
        d.part("13: the one by which it had the fewest");
        TownLisp x = Dues.townOf("t00;o0011;o0911;o0711;o0511");
        asked(x, 0, 1, 8, 5);
        asked(x, 0, 5, 8, 5);
        asked(x, 0, 6, 4, 7);
        asked(x, 0, 8, 2, 9);
        asked(x, 0, 10, 12, 12);
        asked(x, 0, 13, 10, 14);
        asked(x, 0, 15, 6, 16);
    }

    private static void askedLeastSet() {
        d.part("13: of several the least");
        TownLisp x = Dues.townOf("t00;o0511;o0511;o0111;o0511;o0511");
        asked(x, 2, 2, 1, 6);
        asked(x, 2, 7, 3, 11);
        asked(x, 2, 12, 11, 16);
        asked(x, 0, 6, 4, 6);
        asked(x, 0, 7, 2, 10);
        asked(x, 0, 12, 10, 15);
        asked(x, 4, 12, 3, 15);
    }

    private static void askedOfThoseWhoAreIn() {
        d.part("13: of all sets of others who are IN");
        TownLisp x = Dues.townOf("t49;o0111;o3910;o0211");
        asked(x, 0, 3, 4, 3);
        asked(x, 0, 4, TownLisp.NONE, TownLisp.NONE);
        asked(x, 1, 42, 5, 42);
        asked(x, 1, 43, TownLisp.NONE, TownLisp.NONE);
        TownLisp nobody = Edges.deserted();
        asked(nobody, 0, 1, 0, 1);
        asked(nobody, 0, 2, TownLisp.NONE, TownLisp.NONE);
    }

    private static void askedMost() {
        d.part("13: v 0 .. 300, of all PARTS that there can be");
        TownLisp x = Dues.townOf(MOST);
        x.open(0);
        asked(x, 1, 283, 61, 283);
        asked(x, 1, 284, TownLisp.NONE, TownLisp.NONE);
        asked(x, 1, 300, TownLisp.NONE, TownLisp.NONE);
        asked(x, 5, 40, 2, 78);
    }

    private static void askedRefusals() {
        d.part("13: UNKNOWN; OUTSIDE");
        e.people("asked", (x, p) -> x.asked(p, 0, 0), TownLisp.UNKNOWN);
        e.range("v", Edges::busy, (x, v) -> x.asked(0, v, 0), 0, 300, TownLisp.OUTSIDE);
        e.range("v, what 1", Edges::busy, (x, v) -> x.asked(0, v, 1), 0, 300, TownLisp.OUTSIDE);
        e.range("what", Edges::busy, (x, what) -> x.asked(0, 0, what), 0, 1, TownLisp.OUTSIDE);
        e.range("what, none", Edges::busy, (x, what) -> x.asked(0, 300, what), 0, 1, TownLisp.OUTSIDE);
        e.leaves("unknown first", Edges::busy, x -> x.asked(5, 301, 2), TownLisp.UNKNOWN);
        e.leaves("a question", Edges::busy, x -> x.asked(0, 41, 1), 41);
    }

    private static void gatheringsTill() {
        d.part("14: how many, one behind another round it, till it has v PARTS at least");
        TownLisp x = Dues.townOf("t49;o0211;o0111;o0311;o0910");
        int[] due = {0, 0, 0, 1, 1, 2, 3, TownLisp.NONE};
        for (int v = 0; v < due.length; v++) {
            d.due("v " + v, x.gatherings(0, v), due[v]);
        }
        for (int turn = 0; turn < 3; turn++) {
            x.gather(0);
        }
        d.due("behind them", x.ofPerson(0, 1), 6);
    }

    private static void gatheringsNever() {
        d.part("14: NONE: never");
        TownLisp alone = Dues.townOf("t49;o0211;o0910");
        d.due("what it has", alone.gatherings(0, 2), 0);
        d.due("one alone", alone.gatherings(0, 3), TownLisp.NONE);
        TownLisp none = Dues.townOf("t49;o0011;o0011");
        d.due("none of none", none.gatherings(0, 0), 0);
        d.due("others with none", none.gatherings(0, 1), TownLisp.NONE);
    }

    private static void gatheringsAsIfIn() {
        d.part("14: for a PERSON (as if it were IN)");
        TownLisp x = Dues.townOf("t49;o0210;o0111;o0311;o0910");
        d.due("what it has", x.gatherings(0, 2), 0);
        d.due("one who is not in", x.gatherings(0, 6), 3);
        d.due("another one who is not in gives none", x.gatherings(0, 7), TownLisp.NONE);
        e.leaves("it is not in behind it", Edges::busy, y -> y.gatherings(2, 50), 11);
        d.due("nobody is in, what it has", Edges.deserted().gatherings(1, 3), 0);
        d.due("nobody is in", Edges.deserted().gatherings(1, 4), TownLisp.NONE);
    }

    private static void gatheringsMost() {
        d.part("14: v 0 .. 300, of all PARTS that there can be");
        TownLisp x = Dues.townOf(MOST);
        x.open(0);
        for (int p = 1; p < 6; p++) {
            x.leave(p);
        }
        x.come(5);
        d.due("all of one", x.gatherings(5, 283), 283);
        d.due("one more", x.gatherings(5, 284), TownLisp.NONE);
        d.due("all that it has", x.gatherings(0, 283), 0);
        d.due("v 300", x.gatherings(0, 300), TownLisp.NONE);
    }

    private static void gatheringsRefusals() {
        d.part("14: UNKNOWN; OUTSIDE");
        e.people("gatherings", (x, p) -> x.gatherings(p, 0), TownLisp.UNKNOWN);
        e.range("v", Edges::busy, (x, v) -> x.gatherings(0, v), 0, 300, TownLisp.OUTSIDE);
        e.leaves("unknown first", Edges::busy, x -> x.gatherings(5, 301), TownLisp.UNKNOWN);
    }

    private static void level(String text, int level, int rest) {
        TownLisp x = Dues.townOf(text);
        d.due(text + " level", x.level(0), level);
        d.due(text + " rest", x.level(1), rest);
    }

    private static void levelGreatest() {
        d.part("15: the greatest number up to which all who are IN can be brought, by PARTS out of the TIN");
        level("t02;o0011;o0011;o0011", 0, 2);
        level("t03;o0011;o0011;o0011", 1, 0);
        level("t04;o0011;o0011;o0011", 1, 1);
        level("t05;o0011;o0011;o0011", 1, 2);
        level("t06;o0011;o0011;o0011", 2, 0);
        level("t02;o0111;o0311", 3, 0);
        level("t03;o0111;o0311", 3, 1);
        level("t04;o0111;o0311", 4, 0);
        level("t49;o0011;o0010", 49, 0);
    }

    private static void levelOfThoseWithMore() {
        d.part("15: (none give any); all are brought up to just that who have fewer");
        level("t05;o0111;o0311;o0911", 4, 1);
        level("t05;o0111;o3911", 6, 0);
        level("t01;o0311;o3911;o0010", 4, 0);
        level("t37;o0011;o3911", 37, 0);
        level("t40;o0011;o3911", 39, 1);
        level("t41;o0011;o3911", 40, 0);
    }

    private static void levelOfAnEmptyTin() {
        d.part("15: out of an empty TIN");
        level("t00;o0011;o3911", 0, 0);
        level("t00;o0311;o0211;o0010", 2, 0);
        level("t00;o3911;o0010", 39, 0);
    }

    private static void levelMost() {
        d.part("15: of all PARTS that there can be");
        TownLisp x = Dues.townOf(MOST);
        for (int p = 0; p < 6; p++) {
            x.leave(p);
        }
        x.come(3);
        d.due("all in the tin", x.level(0), 283);
        d.due("none is left", x.level(1), 0);
        x.open(3);
        d.due("all with one", x.level(0), 283);
        d.due("none is left", x.level(1), 0);
    }

    private static void levelRefusals() {
        d.part("15: OUTSIDE; STATE: nobody is IN");
        e.range("what", Edges::busy, TownLisp::level, 0, 1, TownLisp.OUTSIDE);
        e.range("outside first, nobody is in", Edges::deserted, TownLisp::level, 0, 1, TownLisp.OUTSIDE);
        for (int what = 0; what < 2; what++) {
            int w = what;
            e.leaves("nobody is in", Edges::deserted, x -> x.level(w), TownLisp.STATE);
            e.leaves("no town", Edges::bare, x -> x.level(w), TownLisp.STATE);
        }
        e.leaves("a question", Edges::busy, x -> x.level(0), 12);
    }

    private static void were(TownLisp x, int p, int v, int sets, int least, int inAll) {
        String call = "were " + p + " " + v + " ";
        d.due(call + 0, x.were(p, v, 0), sets);
        d.due(call + 1, x.were(p, v, 1), least);
        d.due(call + 2, x.were(p, v, 2), inAll);
    }

    private static void wereJust() {
        d.part("16: it has just v PARTS behind a DAY from PERSON 0 on");
        // 3, 4 and 4: alone 3 or 4; 0 with one other 4 of 7; 1 and 2 4 each; all 11: 4, 4, 3.
        TownLisp x = Dues.townOf("t49;o0310;o0410;o0410");
        were(x, 0, 3, 1, 1, 1);
        were(x, 0, 4, 3, 3, 1);
        were(x, 1, 3, 1, 3, 3);
        were(x, 1, 4, 3, 2, 2);
        were(x, 2, 3, 2, 5, 5);
        were(x, 2, 4, 2, 4, 4);
    }

    private static void wereNone() {
        d.part("16: NONE (of 1, 2): there are none");
        TownLisp x = Dues.townOf("t49;o0311;o0411");
        were(x, 0, 2, 0, TownLisp.NONE, TownLisp.NONE);
        were(x, 0, 5, 0, TownLisp.NONE, TownLisp.NONE);
        were(x, 1, 0, 0, TownLisp.NONE, TownLisp.NONE);
        were(x, 1, 300, 0, TownLisp.NONE, TownLisp.NONE);
        TownLisp none = Dues.townOf("t49;o0011;o0011");
        were(none, 0, 0, 2, 1, 1);
        were(none, 1, 0, 2, 2, 2);
        were(none, 1, 1, 0, TownLisp.NONE, TownLisp.NONE);
    }

    private static void wereOfAll() {
        d.part("16: sets of PEOPLE IN (in place of those who are, it among them)");
        TownLisp alike = Dues.townOf("t49;o0211;o0211;o0211;o0211;o0211;o0211");
        were(alike, 0, 2, 32, 1, 1);
        were(alike, 5, 2, 32, 32, 32);
        TownLisp one = Dues.townOf("t49;o0610;o0010;o0010;o0010;o0010;o0010");
        were(one, 0, 6, 1, 1, 1);
        were(one, 0, 1, 1, 63, 63);
        were(one, 5, 1, 11, 39, 33);
        were(one, 5, 3, 1, 33, 33);
        were(one, 5, 0, 16, 32, 32);
        TownLisp rich = Dues.townOf(MOST);
        rich.open(4);
        were(rich, 4, 88, 1, 16, 16);
    }

    private static void wereRefusals() {
        d.part("16: UNKNOWN; OUTSIDE: v (0 .. 300), what");
        e.people("were", (x, p) -> x.were(p, 0, 0), TownLisp.UNKNOWN);
        e.range("v", Edges::busy, (x, v) -> x.were(0, v, 0), 0, 300, TownLisp.OUTSIDE);
        e.range("v, what 2", Edges::busy, (x, v) -> x.were(0, v, 2), 0, 300, TownLisp.OUTSIDE);
        e.range("what", Edges::busy, (x, what) -> x.were(0, 0, what), 0, 2, TownLisp.OUTSIDE);
        e.leaves("unknown first", Edges::busy, x -> x.were(5, 301, 3), TownLisp.UNKNOWN);
        e.leaves("a question", Edges::busy, x -> x.were(2, 9, 1), 4);
    }

    private static void rounds(int tin, int k, int first) {
        TownLisp x = Dues.townOf(String.format("t%02d;o0010;o0010", tin));
        boolean wins = first != TownLisp.NONE;
        d.due(tin + " by " + k, x.rounds(k, 0), wins ? 1 : 0);
        d.due(tin + " by " + k + ", first", x.rounds(k, 1), first);
    }

    private static void roundsLastOneWins() {
        d.part("17: two take 1 .. k PARTS by turns; who takes the last one wins");
        for (int k = 1; k <= 9; k++) {
            rounds(1, k, 1);
            rounds(k, k, k);
            rounds(k + 1, k, TownLisp.NONE);
            rounds(k + 2, k, 1);
            rounds(2 * k + 1, k, k);
            rounds(2 * k + 2, k, TownLisp.NONE);
        }
    }

    private static void roundsOfAnEmptyTin() {
        d.part("17: of an empty TIN");
        for (int k = 1; k <= 9; k++) {
            rounds(0, k, TownLisp.NONE);
        }
    }

    private static void roundsMost() {
        d.part("17: of all PARTS that there can be");
        TownLisp x = Dues.townOf(MOST);
        for (int p = 0; p < 6; p++) {
            x.leave(p);
        }
        d.due("283 by 1", x.rounds(1, 1), 1);
        d.due("283 by 9", x.rounds(9, 1), 3);
        d.due("283 by 3", x.rounds(3, 1), 3);
    }

    private static void roundsRefusals() {
        d.part("17: k (1 .. 9). OUTSIDE; STATE: there is no TOWN");
        e.range("k", Edges::busy, (x, k) -> x.rounds(k, 0), 1, 9, TownLisp.OUTSIDE);
        e.range("k, what 1", Edges::busy, (x, k) -> x.rounds(k, 1), 1, 9, TownLisp.OUTSIDE);
        e.range("what", Edges::busy, (x, what) -> x.rounds(1, what), 0, 1, TownLisp.OUTSIDE);
        e.range("k, no town", Edges::bare, (x, k) -> x.rounds(k, 0), 1, 9, TownLisp.OUTSIDE);
        e.range("what, no town", Edges::bare, (x, what) -> x.rounds(1, what), 0, 1, TownLisp.OUTSIDE);
        e.leaves("no town", Edges::bare, x -> x.rounds(1, 0), TownLisp.STATE);
        e.leaves("no town, what 1", Edges::bare, x -> x.rounds(9, 1), TownLisp.STATE);
        e.leaves("nobody is in", Edges::deserted, x -> x.rounds(2, 1), 2);
    }
}
