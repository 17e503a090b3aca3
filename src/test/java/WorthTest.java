/** Promises 18 to 24: what one is worth, what was said, odds. */
public final class WorthTest {
    private static final Dues d = new Dues();

    public static void main(String[] args) {
        promise18Worth();
        promise19Mean();
        promise20Reading();
        promise21Back();
        promise22Ears();
        promise23Kinds();
        promise22And23OfSeveral();
        promise24Odds();
        d.end();
    }

    private static void worth(TownLisp x, int p, long upper, long lower) {
        d.due("worth " + p + " upper", x.worth(p, 0), upper);
        d.due("worth " + p + " lower", x.worth(p, 1), lower);
    }

    private static void promise18Worth() {
        d.part("promise 18");
        TownLisp x = Dues.townOf("t49;o0311;s0211;c0111;o3910");
        worth(x, 0, 2, 3);
        worth(x, 1, 1, 6);
        worth(x, 2, 1, 6);
        worth(x, 3, TownLisp.LOST, TownLisp.LOST);
        worth(x, 4, TownLisp.LOST, TownLisp.LOST);
        worth(x, -1, TownLisp.LOST, TownLisp.LOST);
        d.due("which -1", x.worth(0, -1), TownLisp.LOST);
        d.due("which 2", x.worth(0, 2), TownLisp.LOST);
        TownLisp half = Dues.townOf("t00;o0311;s0311");
        worth(half, 0, 1, 2);
        TownLisp one = Dues.townOf("t00;o0111;s0010;o0011");
        worth(one, 0, 1, 1);
        worth(one, 2, 0, 1);
        TownLisp none = Dues.townOf("t00;o0011;s0011");
        worth(none, 0, 0, 1);
        TownLisp six = Dues.townOf("t00;o0411;o0311;o0211;o0111;o0111;o0111");
        // More than 6 of 12 decide; counted once over all 720 orders.
        worth(six, 0, 23, 60);
        worth(six, 1, 7, 30);
        worth(six, 2, 11, 60);
        worth(six, 3, 1, 15);
        TownLisp all = Dues.townOf("t00;o0411;o0011;o0011;o0011;o0011;o0011");
        worth(all, 0, 1, 1);
        worth(all, 5, 0, 1);
    }

    private static void mean(String text, long upper, long lower) {
        TownLisp x = Dues.townOf(text);
        d.due(text + " upper", x.mean(0), upper);
        d.due(text + " lower", x.mean(1), lower);
        d.due("which 2", x.mean(2), TownLisp.LOST);
        d.due("which -1", x.mean(-1), TownLisp.LOST);
    }

    private static void promise19Mean() {
        d.part("promise 19");
        mean("t07;o1231;s0721;c0920;o0011;s2251", 41, 4);
        mean("t07;o1211;s0811;c0011;o0011", 5, 1);
        mean("t07;o0411;s0611;c0011;o0011", 5, 2);
        mean("t07;o0011;s0011;c0910", 0, 1);
        mean("t07;o0710;s0611;c0910", 6, 1);
        mean("t07;o0711;s0610;c0910", 7, 1);
        mean("t07;o0710;s0610;c0910", TownLisp.LOST, TownLisp.LOST);
        d.due("no town", new TownLisp().mean(0), TownLisp.LOST);
    }

    private static void promise20Reading() {
        d.part("promise 20");
        TownLisp x = Dues.townOf("t07;o1231;s0721");
        d.due("no person 2", x.reading(2, 301, 0), TownLisp.UNKNOWN);
        d.due("no person -1", x.reading(-1, 0, 0), TownLisp.UNKNOWN);
        for (int k = 0; k < 8; k++) {
            d.due("reading " + k, x.reading(k % 2, k == 0 ? 300 : 0, k == 0 ? 600 : 0), k);
            d.due("many(4)", x.many(4), k + 1);
        }
        d.due("full", x.reading(0, 0, 0), TownLisp.FULL);
        int[][] outside = {{-1, 0}, {301, 0}, {0, -1}, {0, 601}};
        for (int[] row : outside) {
            d.due("outside ahead of full", x.reading(0, row[0], row[1]), TownLisp.OUTSIDE);
        }
        d.due("unknown ahead of all", x.reading(2, -1, 0), TownLisp.UNKNOWN);
        d.due("many(4)", x.many(4), 8);
        d.due("no town", new TownLisp().reading(0, 0, 0), TownLisp.UNKNOWN);
    }

    private static void promise21Back() {
        d.part("promise 21");
        TownLisp x = Dues.townOf("t07;o1231;s0721");
        for (int thick = 1; thick <= 4; thick++) {
            x.reading(0, 12, 12 / thick);
        }
        d.due("they can't all be so", x.ears(0), 0);
        d.due("k 5", x.back(5), TownLisp.OUTSIDE);
        d.due("k -1", x.back(-1), TownLisp.OUTSIDE);
        d.due("none", x.back(0), 4);
        d.due("the last three", x.back(3), 1);
        d.due("the first is left", x.ears(0), 1 << 1);
        d.due("the next number", x.reading(0, 24, 24), 1);
        d.due("all", x.back(2), 0);
        d.due("ears", x.ears(0), 1022);
        d.due("k 1", x.back(1), TownLisp.OUTSIDE);
        d.due("no town", new TownLisp().back(0), 0);
    }

    private static void ears(String letter, int due, int... readings) {
        TownLisp x = Dues.townOf("t07;s0051;" + letter + "0051;o0051");
        for (int r = 0; r < readings.length; r += 2) {
            x.reading(1, readings[r], readings[r + 1]);
        }
        d.due("ears of " + letter, x.ears(1), due);
        d.due("thick is left", x.ofPerson(1, 2), 5);
    }

    private static void promise22Ears() {
        d.part("promise 22");
        ears("o", 1022);
        ears("o", 1 << 3, 12, 4);
        ears("o", 1 << 7 | 1 << 8 | 1 << 9, 20, 2);
        ears("o", 1 << 7 | 1 << 8, 20, 2, 8, 1);
        ears("o", 0, 20, 2, 20, 3);
        ears("s", 1 << 7 | 1 << 8 | 1 << 9, 20, 1);
        ears("s", 1022 - 2, 3, 0);
        ears("c", 1 << 7 | 1 << 8 | 1 << 9, 20, 4);
        ears("c", 0, 20, 5);
        ears("o", 1 << 1, 300, 300);
        ears("c", 1 << 1, 300, 600);
        TownLisp x = Dues.townOf("t07;o1231;s0721");
        d.due("no person 2", x.ears(2), TownLisp.UNKNOWN);
        d.due("no person -1", x.ears(-1), TownLisp.UNKNOWN);
        d.due("no town", new TownLisp().ears(0), TownLisp.UNKNOWN);
    }

    private static void kinds(int thick, int due, int... readings) {
        TownLisp x = Dues.townOf("t07;s0051;c00" + thick + "1;o0051");
        for (int r = 0; r < readings.length; r += 2) {
            x.reading(1, readings[r], readings[r + 1]);
        }
        d.due("kinds by thick " + thick, x.kinds(1), due);
        d.due("kind is left", x.ofPerson(1, 0), 2);
    }

    private static void promise23Kinds() {
        d.part("promise 23");
        kinds(3, 7);
        kinds(3, 1, 6, 2);
        kinds(3, 2, 3, 0);
        kinds(3, 4, 3, 2);
        kinds(3, 7, 2, 0);
        kinds(3, 1, 2, 0, 6, 2);
        kinds(3, 0, 3, 5);
        kinds(1, 0, 6, 2);
        kinds(1, 2, 1, 0);
        TownLisp x = Dues.townOf("t07;o1231;s0721");
        d.due("no person 2", x.kinds(2), TownLisp.UNKNOWN);
        d.due("no person -1", x.kinds(-1), TownLisp.UNKNOWN);
        d.due("no town", new TownLisp().kinds(0), TownLisp.UNKNOWN);
    }

    private static void promise22And23OfSeveral() {
        d.part("promises 22, 23, of several");
        TownLisp x = Dues.townOf("t07;o1231;s0721");
        x.reading(0, 12, 4);
        d.due("another one, all are so", x.ears(1), 1022);
        d.due("another one, all are so", x.kinds(1), 7);
        x.tune(0, 4);
        d.due("its own, whatever it is", x.ears(0), 1 << 3);
        d.due("by what it is now", x.kinds(0), 0);
        // All READINGS must be so, and nothing that the other one is makes this one so.
        d.due("another one, not all are so", x.ears(1), 0);
        d.due("another one, not all are so", x.kinds(1), 0);
    }

    private static void odds(TownLisp x, int p, int v, long upper, long lower) {
        d.due("odds " + p + " " + v + " upper", x.odds(p, v, 0), upper);
        d.due("odds " + p + " " + v + " lower", x.odds(p, v, 1), lower);
    }

    private static void promise24Odds() {
        d.part("promise 24");
        TownLisp x = Dues.townOf("t07;o0311;o0410");
        odds(x, 0, 0, 1, 2);
        odds(x, 0, 3, 1, 2);
        odds(x, 0, 4, 1, 4);
        odds(x, 0, 5, 0, 1);
        odds(x, 1, 4, 1, 4);
        odds(x, 1, 600, 0, 1);
        TownLisp five = Dues.townOf("t07;o1231;s0721;c0920;o0011;s2251");
        odds(five, 0, 2, 1, 2);
        odds(five, 0, 5, 1, 16);
        odds(five, 1, 2, 15, 32);
        odds(five, 5, 0, TownLisp.LOST, TownLisp.LOST);
        odds(five, -1, 0, TownLisp.LOST, TownLisp.LOST);
        odds(five, 0, -1, TownLisp.LOST, TownLisp.LOST);
        odds(five, 0, 601, TownLisp.LOST, TownLisp.LOST);
        d.due("which -1", five.odds(0, 0, -1), TownLisp.LOST);
        d.due("which 2", five.odds(0, 0, 2), TownLisp.LOST);
        d.due("who is in, as before", five.heard(1), 27);
    }
}
