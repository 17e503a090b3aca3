/** Promises 6 to 12: days, comings, goings, years. */
public final class ActsTest {
    private static final String FOUR = "t00;o0511;s0311;c0211;o1010";
    private static final int DAY = 0, LEAVES = 1, COMES = 2, GATHERING = 3, OPENS = 4;
    private static final Dues d = new Dues();

    public static void main(String[] args) {
        promise6Day();
        promise7Leave();
        promise8Come();
        promise9Gather();
        promise10Pack();
        promise11Open();
        promise12Year();
        promise12FirstWrong();
        promise12Pairs();
        d.end();
    }

    private static void parts(TownLisp x, String when, int... due) {
        for (int p = 0; p < due.length; p++) {
            d.due(when + ": parts of " + p, x.ofPerson(p, 1), due[p]);
        }
    }

    private static void promise6Day() {
        d.part("promise 6");
        TownLisp x = Dues.townOf(FOUR);
        d.due("from 0", x.day(0), 3);
        parts(x, "from 0", 4, 3, 3, 10);
        d.due("from 2", x.day(2), 3);
        parts(x, "from 2", 3, 3, 4, 10);
        d.due("from one who is not in", x.day(3), 3);
        parts(x, "from 3", 4, 3, 3, 10);
        d.due("many(3)", x.many(3), 3);
        d.due("no person 4", x.day(4), TownLisp.UNKNOWN);
        d.due("no person -1", x.day(-1), TownLisp.UNKNOWN);
        TownLisp two = Dues.townOf("t09;o0511;s0311;c0311");
        d.due("two are left over", two.day(2), 3);
        parts(two, "from 2 round to 0", 4, 3, 4);
        TownLisp even = Dues.townOf("t09;o0511;s0111;c0311");
        d.due("none is left over", even.day(1), 3);
        parts(even, "even", 3, 3, 3);
        d.due("the tin is left", even.many(1), 9);
        TownLisp few = Dues.townOf("t09;o0011;s0211;c0011;o0011");
        d.due("too few for all", few.day(3), 0);
        parts(few, "too few", 1, 0, 0, 1);
        TownLisp six = Dues.townOf("t09;o0511;s0111;c0211;o0311;s0311;c3910");
        d.due("five of six", six.day(5), 2);
        parts(six, "five of six", 3, 3, 3, 3, 2, 39);
        d.due("all of six, told", year(six, 15, 5, COMES, 4, DAY), 9);
        TownLisp alone = Dues.townOf("t09;o0510;s0711");
        d.due("one alone", alone.day(0), 7);
        parts(alone, "one alone", 5, 7);
        TownLisp nobody = Dues.townOf("t09;o0510;s0110");
        d.due("nobody is in", nobody.day(0), TownLisp.STATE);
        d.due("no such one ahead of it", nobody.day(2), TownLisp.UNKNOWN);
        d.due("no day has gone", nobody.many(3), 0);
    }

    private static void promise7Leave() {
        d.part("promise 7");
        TownLisp x = Dues.townOf("t01;o0711;o0011;o0011;o0510");
        d.due("it leaves", x.leave(0), 7);
        parts(x, "round and round", 0, 4, 3, 5);
        d.due("it is not in", x.leave(0), TownLisp.STATE);
        d.due("never was", x.leave(3), TownLisp.STATE);
        d.due("the next", x.leave(2), 3);
        parts(x, "one is left", 0, 7, 0, 5);
        d.due("the tin", x.many(1), 1);
        d.due("the last", x.leave(1), 7);
        parts(x, "none is left", 0, 0, 0, 5);
        d.due("into the tin", x.many(1), 8);
        d.due("nobody", x.many(2), 0);
        d.due("no person 4", x.leave(4), TownLisp.UNKNOWN);
        d.due("no person -1", x.leave(-1), TownLisp.UNKNOWN);
        TownLisp from0 = Dues.townOf("t01;o0011;o0011;o0111;o0411");
        d.due("from 0 on, not from it on", from0.leave(3), 4);
        parts(from0, "from 0 on", 2, 1, 2, 0);
        TownLisp nothing = Dues.townOf("t01;o0011;o0911");
        d.due("with none", nothing.leave(0), 0);
        parts(nothing, "with none", 0, 9);
    }

    private static void promise8Come() {
        d.part("promise 8");
        TownLisp x = Dues.townOf("t01;o0710;o0011;o0310");
        d.due("it comes", x.come(0), 2);
        parts(x, "with what it has", 7, 0, 3);
        d.due("who", x.heard(1), 3);
        d.due("it is in", x.come(0), TownLisp.STATE);
        d.due("one more", x.come(2), 3);
        d.due("no person 3", x.come(3), TownLisp.UNKNOWN);
        d.due("no person -1", x.come(-1), TownLisp.UNKNOWN);
    }

    private static void promise9Gather() {
        d.part("promise 9");
        TownLisp x = Dues.townOf("t01;o0111;o0511;o0310;o0011;o0211");
        d.due("two give", x.gather(1), 2);
        parts(x, "round 1", 0, 7, 3, 0, 1);
        d.due("one gives", x.gather(1), 1);
        d.due("none gives", x.gather(1), 0);
        parts(x, "again", 0, 8, 3, 0, 0);
        d.due("round one with none", x.gather(3), 1);
        parts(x, "round 3", 0, 7, 3, 1, 0);
        d.due("it is not in", x.gather(2), TownLisp.STATE);
        d.due("no person 5", x.gather(5), TownLisp.UNKNOWN);
        d.due("no person -1", x.gather(-1), TownLisp.UNKNOWN);
    }

    private static void promise10Pack() {
        d.part("promise 10");
        TownLisp x = Dues.townOf("t49;o3911;o3910;o3911;o3911");
        d.due("it packs", x.pack(0, 9), 58);
        parts(x, "packed", 30, 39);
        d.due("one who is not in", x.pack(1, 39), 97);
        d.due("it has none left", x.pack(1, 1), TownLisp.STATE);
        d.due("not so many", x.pack(0, 31), TownLisp.STATE);
        d.due("n 0", x.pack(1, 0), TownLisp.OUTSIDE);
        d.due("n 100", x.pack(1, 100), TownLisp.OUTSIDE);
        d.due("n below 0", x.pack(0, -1), TownLisp.OUTSIDE);
        parts(x, "as before", 30, 0);
        d.due("the tin", x.many(1), 97);
        d.due("no person 4", x.pack(4, 0), TownLisp.UNKNOWN);
        d.due("no person -1", x.pack(-1, 1), TownLisp.UNKNOWN);
        x.open(0);
        d.due("n 99 of 127", x.pack(0, 99), 99);
        d.due("n 99 of 28", x.pack(0, 99), TownLisp.STATE);
        d.due("just so many", x.pack(0, 28), 127);
    }

    private static void promise11Open() {
        d.part("promise 11");
        TownLisp x = Dues.townOf("t49;o0311;o0010");
        d.due("it is not in", x.open(1), TownLisp.STATE);
        d.due("it opens", x.open(0), 49);
        parts(x, "opened", 52, 0);
        d.due("the tin", x.many(1), 0);
        d.due("it is empty", x.open(0), TownLisp.STATE);
        d.due("no person 2", x.open(2), TownLisp.UNKNOWN);
        d.due("no person -1", x.open(-1), TownLisp.UNKNOWN);
    }

    private static int year(TownLisp x, int what, int... pairs) {
        Dues.write(x, 1, Dues.SHORTS, pairs);
        return x.year(1, Dues.SHORTS, 0, pairs.length / 2, what);
    }

    private static void promise12Year() {
        d.part("promise 12");
        TownLisp x = Dues.townOf("t07;o1231;s0721;c0920;o0011;s2251");
        int[] pairs = {0, DAY, 1, LEAVES, 2, COMES, 4, GATHERING, 2, OPENS, 3, DAY};
        // 11 10 9 10 10; 15 0 9 13 13; the same; 14 0 8 12 16; 14 0 15 12 16; 57 by 4: 14 0 14 15 14.
        int[] due = {0, -9, 29, 34, 14, 0, 14, 15, 14, -9};
        int[] whats = {0, 1, 2, 3, 10, 11, 12, 13, 14, 15};
        for (int w = 0; w < whats.length; w++) {
            d.due("year " + whats[w], year(x, whats[w], pairs), due[w]);
        }
        parts(x, "nothing is changed", 12, 7, 9, 0, 22);
        d.due("no day has gone", x.many(3), 0);
        d.due("who", x.heard(1), 27);
        d.due("the tin", x.many(1), 7);
        int[] nothing = {7, -9, 27, 9, 12, 7, 9, 0, 22, -9};
        for (int w = 0; w < whats.length; w++) {
            d.due("no pairs " + whats[w], year(x, whats[w]), nothing[w]);
        }
        Dues.write(x, 2, Dues.BYTES, 9, 9, 9, 0, DAY, 9);
        d.due("from 3 on", x.year(2, Dues.BYTES, 3, 1, 10), 11);
        int[] most = new int[40];
        d.due("20 days", year(x, 10, most), 11);
        d.due("all leave, into the tin", year(x, 0, 0, LEAVES, 1, LEAVES, 3, LEAVES, 4, LEAVES), 48);
    }

    private static void promise12FirstWrong() {
        d.part("promise 12, first wrong");
        TownLisp x = Dues.townOf("t07;o1231;s0721;c0920");
        int[][] wrong = {
            {2, LEAVES}, {1, COMES}, {2, GATHERING}, {2, OPENS},
            {0, OPENS, 0, OPENS}, {0, LEAVES, 0, LEAVES}, {0, LEAVES, 1, LEAVES, 0, DAY},
            {0, DAY, 1, GATHERING, 2, COMES, 2, COMES, 2, LEAVES},
        };
        int[] due = {0, 0, 0, 0, 1, 1, 2, 3};
        for (int w = 0; w < wrong.length; w++) {
            d.due("first wrong " + w, year(x, 1, wrong[w]), due[w]);
            for (int what : new int[] {0, 2, 3, 10, 12, 13, 15}) {
                d.due("wrong " + w + " what " + what, year(x, what, wrong[w]), -100 - due[w]);
            }
            d.due("fault()", x.fault(), 0);
        }
        parts(x, "nothing is changed", 12, 7, 9);
    }

    private static void promise12Pairs() {
        d.part("promise 12, pairs");
        TownLisp x = Dues.townOf("t07;o1231;s0721;c0920");
        d.due("no person 3", year(x, 0, 3, 9), TownLisp.UNKNOWN);
        d.due("no person -1", year(x, 0, -1, DAY), TownLisp.UNKNOWN);
        d.due("no act 5", year(x, 0, 0, 5), TownLisp.OUTSIDE);
        d.due("no act -1", year(x, 1, 0, -1), TownLisp.OUTSIDE);
        d.due("pair by pair, outside first", year(x, 0, 0, 5, 9, DAY), TownLisp.OUTSIDE);
        d.due("pair by pair, unknown first", year(x, 0, 9, DAY, 0, 5), TownLisp.UNKNOWN);
        Dues.write(x, 2, Dues.INTS, 9, 9, 0, DAY, 0, DAY, 1, 5, 9, 9);
        d.due("a later pair, from 2 on", x.year(2, Dues.INTS, 2, 3, 0), TownLisp.OUTSIDE);
        x.put(2, 7, OPENS);
        d.due("now none of them", x.year(2, Dues.INTS, 2, 3, 0), 0);
        x.put(2, 6, 3);
        d.due("a later person", x.year(2, Dues.INTS, 2, 3, 0), TownLisp.UNKNOWN);
        d.due("ahead of a first wrong", year(x, 1, 0, COMES, 9, DAY), TownLisp.UNKNOWN);
        x.put(0, 0, 0);
        year(x, 1, 0, 5);
        d.due("fault()", x.fault(), 0);
    }
}
