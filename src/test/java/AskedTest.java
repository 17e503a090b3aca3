/** Promises 13 to 17: who must be asked. */
public final class AskedTest {
    private static final String FIVE = "t07;o1231;s0721;c0920;o0011;s2251";
    private static final Dues d = new Dues();

    public static void main(String[] args) {
        promise13Asked();
        promise14Gatherings();
        promise15Level();
        promise16Were();
        promise17Rounds();
        d.end();
    }

    private static void asked(TownLisp x, int p, int v, int set, int parts) {
        d.due("asked " + p + " " + v + " set", x.asked(p, v, 0), set);
        d.due("asked " + p + " " + v + " parts", x.asked(p, v, 1), parts);
    }

    private static void promise13Asked() {
        d.part("promise 13");
        TownLisp x = Dues.townOf(FIVE);
        asked(x, 0, 0, 0, 12);
        asked(x, 0, 12, 0, 12);
        asked(x, 0, 13, 2, 19);
        asked(x, 0, 20, 16, 34);
        asked(x, 0, 41, 18, 41);
        asked(x, 0, 42, TownLisp.NONE, TownLisp.NONE);
        asked(x, 2, 50, 19, 50);
        asked(x, 2, 51, TownLisp.NONE, TownLisp.NONE);
        asked(x, 0, 300, TownLisp.NONE, TownLisp.NONE);
        TownLisp alike = Dues.townOf("t07;o0111;o0511;o0510;o0511;o0511");
        asked(alike, 0, 6, 2, 6);
        asked(alike, 0, 7, 10, 11);
        asked(alike, 4, 7, 2, 10);
        asked(alike, 2, 16, 11, 16);
        asked(alike, 2, 17, 26, 20);
        TownLisp fewest = Dues.townOf("t07;o0111;o0911;o0511;o0711;o0011");
        asked(fewest, 0, 6, 4, 6);
        asked(fewest, 0, 7, 8, 8);
        asked(fewest, 0, 11, 12, 13);
        d.due("no person 5", x.asked(5, 301, 9), TownLisp.UNKNOWN);
        d.due("no person -1", x.asked(-1, 0, 0), TownLisp.UNKNOWN);
        d.due("v -1", x.asked(0, -1, 0), TownLisp.OUTSIDE);
        d.due("v 301", x.asked(0, 301, 1), TownLisp.OUTSIDE);
        d.due("what -1", x.asked(0, 300, -1), TownLisp.OUTSIDE);
        d.due("what 2", x.asked(0, 300, 2), TownLisp.OUTSIDE);
    }

    private static void promise14Gatherings() {
        d.part("promise 14");
        TownLisp x = Dues.townOf(FIVE);
        int[][] due = {
            {0, 0, 0}, {0, 12, 0}, {0, 13, 1}, {0, 14, 1}, {0, 15, 2}, {0, 26, 7}, {0, 27, 8}, {0, 41, 22}, {0, 42, -9},
            {2, 9, 0}, {2, 10, 1}, {2, 12, 1}, {2, 13, 2}, {2, 50, 22}, {2, 51, -9}, {2, 300, -9},
        };
        for (int[] row : due) {
            d.due("gatherings " + row[0] + " " + row[1], x.gatherings(row[0], row[1]), row[2]);
        }
        d.due("nothing is changed", x.ofPerson(2, 3), 0);
        d.due("parts", x.ofPerson(0, 1), 12);
        d.due("no person 5", x.gatherings(5, 301), TownLisp.UNKNOWN);
        d.due("no person -1", x.gatherings(-1, 0), TownLisp.UNKNOWN);
        d.due("v -1", x.gatherings(0, -1), TownLisp.OUTSIDE);
        d.due("v 301", x.gatherings(0, 301), TownLisp.OUTSIDE);
        TownLisp most = Dues.townOf("t49;o3991;o3991;o3991;o3991;o3991;o3991");
        most.open(0);
        d.due("one of many parts", most.gatherings(1, 283), 88);
        d.due("more than there are", most.gatherings(1, 284), TownLisp.NONE);
        for (int p = 1; p < 6; p++) {
            most.leave(p);
        }
        most.come(1);
        d.due("all of one", most.gatherings(1, 283), 283);
    }

    private static void level(String text, int level, int rest) {
        TownLisp x = Dues.townOf(text);
        d.due(text + " level", x.level(0), level);
        d.due(text + " rest", x.level(1), rest);
        d.due("what 2", x.level(2), TownLisp.OUTSIDE);
        d.due("what -1", x.level(-1), TownLisp.OUTSIDE);
    }

    private static void promise15Level() {
        d.part("promise 15");
        level("t05;o0111;o0311;o0911;o0010", 4, 1);
        level("t09;o0111;o0211;o0010", 6, 0);
        level("t10;o0111;o0211;o0010", 6, 1);
        level("t00;o0311;o0211;o0010", 2, 0);
        level("t01;o0211;o0211;o0010", 2, 1);
        level("t49;o3911;o0010", 88, 0);
        level("t49;o0011;o3910", 49, 0);
        level("t00;o0011;o3911", 0, 0);
        level("t01;o0011;o3911", 1, 0);
        level("t01;o0011;o0011", 0, 1);
        TownLisp nobody = Dues.townOf("t05;o0110;o0310");
        d.due("nobody is in", nobody.level(0), TownLisp.STATE);
        d.due("nobody is in", nobody.level(1), TownLisp.STATE);
        d.due("what ahead of it", nobody.level(2), TownLisp.OUTSIDE);
        d.due("no town", new TownLisp().level(0), TownLisp.STATE);
        TownLisp most = Dues.townOf("t49;o3991;o3991;o3991;o3991;o3991;o3991");
        for (int p = 0; p < 6; p++) {
            most.leave(p);
        }
        most.come(3);
        d.due("all out of the tin", most.level(0), 283);
        d.due("none is left", most.level(1), 0);
    }

    private static void were(TownLisp x, int p, int v, int sets, int least, int inAll) {
        String call = "were " + p + " " + v + " ";
        d.due(call + 0, x.were(p, v, 0), sets);
        d.due(call + 1, x.were(p, v, 1), least);
        d.due(call + 2, x.were(p, v, 2), inAll);
    }

    private static void promise16Were() {
        d.part("promise 16");
        TownLisp x = Dues.townOf("t07;o0311;o0410");
        were(x, 0, 3, 1, 1, 1);
        were(x, 0, 4, 1, 3, 3);
        were(x, 1, 4, 1, 2, 2);
        were(x, 1, 3, 1, 3, 3);
        were(x, 1, 5, 0, TownLisp.NONE, TownLisp.NONE);
        TownLisp five = Dues.townOf(FIVE);
        were(five, 0, 7, 3, 11, 9);
        were(five, 4, 10, 4, 27, 24);
        were(five, 3, 0, 1, 8, 8);
        TownLisp alike = Dues.townOf("t00;o0211;o0211;o0211;o0210;o0210;o0210");
        were(alike, 5, 2, 32, 32, 32);
        TownLisp none = Dues.townOf("t00;o0011;o0011;o0010");
        were(none, 1, 0, 4, 2, 2);
        d.due("who is in, as before", none.heard(1), 3);
        d.due("no person 5", five.were(5, 301, 9), TownLisp.UNKNOWN);
        d.due("no person -1", five.were(-1, 0, 0), TownLisp.UNKNOWN);
        d.due("v -1", five.were(0, -1, 0), TownLisp.OUTSIDE);
        d.due("v 301", five.were(0, 301, 0), TownLisp.OUTSIDE);
        d.due("v 300", five.were(0, 300, 0), 0);
        d.due("what -1", five.were(0, 0, -1), TownLisp.OUTSIDE);
        d.due("what 3", five.were(0, 0, 3), TownLisp.OUTSIDE);
    }

    private static void promise17Rounds() {
        d.part("promise 17");
        TownLisp x = Dues.townOf(FIVE);
        int[] first = {0, 1, 1, 3, 2, 1, 0, 7, 7, 7};
        for (int k = 1; k <= 9; k++) {
            d.due("rounds " + k + " 0", x.rounds(k, 0), first[k] == 0 ? 0 : 1);
            d.due("rounds " + k + " 1", x.rounds(k, 1), first[k] == 0 ? TownLisp.NONE : first[k]);
        }
        TownLisp empty = Dues.townOf("t00;o0311;o0410");
        d.due("an empty tin 0", empty.rounds(3, 0), 0);
        d.due("an empty tin 1", empty.rounds(3, 1), TownLisp.NONE);
        for (TownLisp y : new TownLisp[] {x, new TownLisp()}) {
            d.due("k 0", y.rounds(0, 0), TownLisp.OUTSIDE);
            d.due("k 10", y.rounds(10, 0), TownLisp.OUTSIDE);
            d.due("k -1", y.rounds(-1, 0), TownLisp.OUTSIDE);
            d.due("what -1", y.rounds(1, -1), TownLisp.OUTSIDE);
            d.due("what 2", y.rounds(1, 2), TownLisp.OUTSIDE);
        }
        d.due("no town", new TownLisp().rounds(9, 1), TownLisp.STATE);
    }
}
