/** Promises 18 to 24: a test of its own for each edge that the document names of votes, READINGS and ODDS. */
public final class WorthEdgesTest {
    private static final Dues d = new Dues();
    private static final Edges e = new Edges(d);

    public static void main(String[] args) {
        worthMoreThanHalf();
        worthOfOneAlone();
        worthOfNoParts();
        worthOfThoseWhoAreIn();
        worthInLeastTerms();
        worthRefusals();
        meanEdges();
        meanRefusals();
        readingNumbers();
        readingFull();
        readingRefusals();
        backEdges();
        backRefusals();
        earsOfNoReadings();
        earsFirstAndLast();
        earsOfSeveralKinds();
        earsByAllReadings();
        earsRefusals();
        kindsOfNoReadings();
        kindsFirstAndLast();
        kindsByAllReadings();
        kindsRefusals();
        oddsAtLeast();
        oddsOfAllSets();
        oddsOfKinds();
        oddsMost();
        oddsRefusals();
        d.end();
    }

    private static void worth(TownLisp x, int p, long upper, long lower) {
        d.due("worth " + p + " upper", x.worth(p, 0), upper);
        d.due("worth " + p + " lower", x.worth(p, 1), lower);
    }

    private static void worthMoreThanHalf() {
        d.part("18: the first with whom PARTS of those who came are more than half");
        // Just half does not decide: in 1 1 2 PERSON 2 decides but where it comes first, then whoever is next.
        TownLisp half = Dues.townOf("t49;o0111;o0111;o0211");
        worth(half, 0, 1, 6);
        worth(half, 1, 1, 6);
        worth(half, 2, 2, 3);
        TownLisp two = Dues.townOf("t49;o0311;o0311");
        worth(two, 0, 1, 2);
        worth(two, 1, 1, 2);
        // 1 1 3: PERSON 2 has more than half alone.
        TownLisp more = Dues.townOf("t49;o0111;o0111;o0311");
        worth(more, 0, 0, 1);
        worth(more, 2, 1, 1);
        // 2 2 1 of 5: 3 and more; each one decides as second where it comes so.
        TownLisp odd = Dues.townOf("t49;o0211;o0211;o0111");
        worth(odd, 0, 1, 3);
        worth(odd, 2, 1, 3);
    }

    private static void worthOfOneAlone() {
        d.part("18: one alone");
        TownLisp x = Dues.townOf("t49;o3910;o0111");
        worth(x, 1, 1, 1);
    }

    private static void worthOfNoParts() {
        d.part("18: nobody has more than half of nothing");
        TownLisp none = Dues.townOf("t49;o0011;o0011;o3910");
        worth(none, 0, 0, 1);
        worth(none, 1, 0, 1);
        TownLisp alone = Dues.townOf("t49;o0011;o3910");
        worth(alone, 0, 0, 1);
        TownLisp one = Dues.townOf("t49;o0011;o0111");
        worth(one, 0, 0, 1);
        worth(one, 1, 1, 1);
    }

    private static void worthOfThoseWhoAreIn() {
        d.part("18: half of what all who are IN have; LOST: it is not IN");
        TownLisp x = Dues.townOf("t49;o3910;o0111;o0111;o0111");
        worth(x, 0, TownLisp.LOST, TownLisp.LOST);
        worth(x, 1, 1, 3);
        x.come(0);
        worth(x, 0, 1, 1);
        worth(x, 1, 0, 1);
    }

    private static void worthInLeastTerms() {
        d.part("Shares are told as upper and lower number (above 0) in least terms");
        TownLisp six = Dues.townOf("t49;o0511;o0511;o0511;o0511;o0511;o0511");
        for (int p = 0; p < 6; p++) {
            worth(six, p, 1, 6);
        }
        // 5 of 10 is no more than half: PERSON 0 decides but where it comes first, where the second does.
        TownLisp big = Dues.townOf("t49;o0511;o0111;o0111;o0111;o0111;o0111");
        worth(big, 0, 5, 6);
        worth(big, 5, 1, 30);
    }

    private static void worthRefusals() {
        d.part("18: LOST: UNKNOWN, OUTSIDE, it is not IN");
        e.people("worth", (x, p) -> x.worth(p, 0), TownLisp.LOST);
        e.range("which", Edges::busy, (x, which) -> x.worth(0, which), 0, 1, TownLisp.LOST);
        e.leaves("it is not in", Edges::busy, x -> x.worth(2, 0), TownLisp.LOST);
        e.leaves("it is not in, lower", Edges::busy, x -> x.worth(2, 1), TownLisp.LOST);
        e.leaves("nobody is in", Edges::deserted, x -> x.worth(0, 1), TownLisp.LOST);
        e.leaves("a question", Edges::busy, x -> x.worth(1, 1), 2);
    }

    private static void mean(String text, long upper, long lower) {
        TownLisp x = Dues.townOf(text);
        d.due(text + " upper", x.mean(0), upper);
        d.due(text + " lower", x.mean(1), lower);
    }

    private static void meanEdges() {
        d.part("19: the mean of the PARTS of all who are IN");
        mean("t49;o0011;o0011;o3910", 0, 1);
        mean("t49;o0111;o0011;o3910", 1, 2);
        mean("t49;o0111;o0111;o3910", 1, 1);
        mean("t49;o3911;o3910;o0010", 39, 1);
        mean("t49;o0011;o3910;o0010", 0, 1);
        mean("t49;o3911;o3911;o3911;o3911;o3911;o3911", 39, 1);
        mean("t49;o3911;o3911;o3911;o3911;o3911;o3811", 233, 6);
        mean("t49;o3911;o3911;o3911;o3911;o3911;o3711", 116, 3);
        mean("t49;o3911;o3911;o3911;o3911;o3911;o3611", 77, 2);
    }

    private static void meanRefusals() {
        d.part("19: LOST: OUTSIDE, nobody is IN");
        e.range("which", Edges::busy, TownLisp::mean, 0, 1, TownLisp.LOST);
        for (int which = 0; which < 2; which++) {
            int w = which;
            e.leaves("nobody is in", Edges::deserted, x -> x.mean(w), TownLisp.LOST);
            e.leaves("no town", Edges::bare, x -> x.mean(w), TownLisp.LOST);
        }
        e.leaves("a question", Edges::busy, x -> x.mean(0), 41);
    }

    // ---- READINGS

    private static TownLisp withReadings(int count) {
        TownLisp x = Dues.townOf("t07;o1231;s0721;c0920");
        for (int r = 0; r < count; r++) {
            x.reading(0, 3 + r, (3 + r) / 3);
        }
        x.put(0, 0, 0);
        return x;
    }

    private static void readingNumbers() {
        d.part("READINGS, 8 at most, numbered by how many there are");
        TownLisp x = Dues.townOf("t07;o1231;s0721;c0920");
        for (int r = 0; r < 8; r++) {
            d.due("number", x.reading(r % 3, 300, 600), r);
            d.due("many(4)", x.many(4), r + 1);
        }
        TownLisp back = withReadings(5);
        back.back(2);
        d.due("behind some that were taken back", back.reading(0, 0, 0), 3);
    }

    private static void readingFull() {
        d.part("20: FULL");
        d.due("the eighth", withReadings(7).reading(2, 0, 0), 7);
        e.leaves("the ninth", () -> withReadings(8), x -> x.reading(0, 3, 9), TownLisp.FULL);
        TownLisp x = withReadings(8);
        x.reading(0, 0, 0);
        d.due("again", x.reading(0, 0, 0), TownLisp.FULL);
        d.due("one is taken back", x.back(1), 7);
        d.due("the eighth again", x.reading(0, 0, 0), 7);
        d.due("full again", x.reading(0, 0, 0), TownLisp.FULL);
    }

    private static void readingRefusals() {
        d.part("20: UNKNOWN; OUTSIDE: parts (0 .. 300), v (0 .. 600); FULL");
        e.people("reading", (x, p) -> x.reading(p, 0, 0), TownLisp.UNKNOWN);
        e.range("parts", Edges::busy, (x, parts) -> x.reading(0, parts, 0), 0, 300, TownLisp.OUTSIDE);
        e.range("v", Edges::busy, (x, v) -> x.reading(0, 0, v), 0, 600, TownLisp.OUTSIDE);
        e.leaves("unknown first", () -> withReadings(8), x -> x.reading(3, 301, 601), TownLisp.UNKNOWN);
        e.leaves("outside ahead of full", () -> withReadings(8), x -> x.reading(0, 301, 0), TownLisp.OUTSIDE);
        e.leaves("outside ahead of full", () -> withReadings(8), x -> x.reading(0, 0, 601), TownLisp.OUTSIDE);
    }

    private static void backEdges() {
        d.part("21: the last k READINGS are taken back: how many are left");
        e.leaves("none of three", Edges::busy, x -> x.back(0), 3);
        d.due("all of eight", withReadings(8).back(8), 0);
        d.due("all but one", withReadings(8).back(7), 1);
        TownLisp x = Dues.townOf("t07;o1231;s0721;c0920");
        x.reading(0, 12, 12);
        x.reading(0, 18, 2);
        x.reading(0, 12, 4);
        d.due("they can't all be so", x.ears(0), 0);
        d.due("the last two", x.back(2), 1);
        d.due("the first is left", x.ears(0), 1 << 1);
        d.due("the first", x.back(1), 0);
        d.due("none is left", x.ears(0), 1022);
    }

    private static void backRefusals() {
        d.part("21: (0 .. as many as there are). OUTSIDE");
        for (int count : new int[] {0, 1, 3, 8}) {
            e.range("of " + count + ", k", () -> withReadings(count), TownLisp::back, 0, count, TownLisp.OUTSIDE);
        }
        e.range("no town, k", Edges::bare, TownLisp::back, 0, 0, TownLisp.OUTSIDE);
        e.leaves("no town, none", Edges::bare, x -> x.back(0), 0);
    }

    // ---- EARS, KINDS

    private static void ears(String letter, int due, int... readings) {
        TownLisp x = Dues.townOf("t07;s0051;" + letter + "0051;o0051");
        for (int r = 0; r < readings.length; r += 2) {
            x.reading(1, readings[r], readings[r + 1]);
        }
        d.due("ears of " + letter, x.ears(1), due);
    }

    private static void earsOfNoReadings() {
        d.part("22: THICK 1 .. 9, of no READINGS");
        ears("o", 1022);
        ears("s", 1022);
        ears("c", 1022);
        d.due("one who is not in", Dues.townOf(Edges.FIVE).ears(2), 1022);
    }

    private static void earsFirstAndLast() {
        d.part("22: THICK 1 .. 9, the first and the last");
        ears("o", 1 << 1, 300, 300);
        ears("o", 1 << 9, 9, 1, 17, 1);
        ears("o", 1 << 9, 81, 9);
        ears("o", 1022 - 2, 1, 0);
        ears("o", 1 << 5 | 1 << 6 | 1 << 7 | 1 << 8, 8, 1);
        ears("o", 1022, 0, 0);
        ears("o", 0, 0, 1);
        ears("o", 0, 300, 32);
        ears("o", 1 << 9, 300, 33);
    }

    private static void earsOfSeveralKinds() {
        d.part("22: by what a SHY one, a CHILD says");
        ears("s", 1 << 1, 300, 299);
        ears("s", 0, 300, 300);
        ears("s", 1022, 1, 0);
        ears("s", 1022 - 2, 2, 0);
        ears("s", 1 << 9, 17, 0, 18, 1, 27, 2, 36, 3, 80, 7);
        ears("c", 1 << 1, 300, 600);
        ears("c", 0, 300, 300 - 1);
        ears("c", 1022, 0, 0);
        ears("c", 1022 - 2, 1, 0);
        ears("c", 0, 1, 1);
    }

    private static void earsByAllReadings() {
        d.part("22: by which all READINGS are so, in place of what it is alone");
        ears("o", 1 << 7 | 1 << 8, 20, 2, 8, 1);
        ears("o", 0, 20, 2, 20, 3);
        ears("o", 1 << 6, 6, 1, 7, 1, 8, 1, 9, 1, 10, 1, 11, 1, 12, 2, 5, 0);
        ears("o", 0, 6, 1, 7, 1, 8, 1, 9, 1, 10, 1, 11, 1, 12, 2, 6, 0);
        TownLisp x = Dues.townOf("t07;o1231;s0721;c0920");
        x.reading(0, 12, 4);
        d.due("another's is so", x.ears(1), 1022);
        x.reading(1, 7, 2);
        d.due("another's and its own", x.ears(1), 1 << 2);
        x.tune(1, 9);
        d.due("its own, whatever it is", x.ears(1), 1 << 2);
        d.due("another's is not so", x.ears(0), 0);
        d.due("that of no one who has any", x.ears(2), 0);
    }

    private static void earsRefusals() {
        d.part("22: UNKNOWN");
        e.people("ears", TownLisp::ears, TownLisp.UNKNOWN);
        e.leaves("a question", Edges::busy, x -> x.ears(0), 1 << 3);
    }

    private static void kinds(int thick, int due, int... readings) {
        TownLisp x = Dues.townOf("t07;s0051;c00" + thick + "1;o0051");
        for (int r = 0; r < readings.length; r += 2) {
            x.reading(1, readings[r], readings[r + 1]);
        }
        d.due("kinds by thick " + thick, x.kinds(1), due);
    }

    private static void kindsOfNoReadings() {
        d.part("23: 0 .. 2, of no READINGS");
        kinds(3, 7);
        d.due("one who is not in", Dues.townOf(Edges.FIVE).kinds(2), 7);
    }

    private static void kindsFirstAndLast() {
        d.part("23: 0 .. 2, each alone, some, none");
        kinds(3, 1, 3, 1);
        kinds(3, 2, 3, 0);
        kinds(3, 4, 3, 2);
        kinds(3, 7, 2, 0);
        kinds(3, 0, 3, 3);
        kinds(1, 1, 300, 300);
        kinds(1, 2, 300, 299);
        kinds(1, 4, 300, 600);
        kinds(9, 7, 8, 0);
        kinds(9, 2, 9, 0);
    }

    private static void kindsByAllReadings() {
        d.part("23: by which all READINGS are so, in place of what it is alone");
        kinds(3, 2, 2, 0, 3, 0);
        kinds(3, 0, 3, 1, 3, 2);
        kinds(1, 4, 0, 0, 1, 2, 2, 4, 3, 6, 4, 8, 5, 10, 6, 12, 7, 14);
        kinds(1, 0, 0, 0, 1, 2, 2, 4, 3, 6, 4, 8, 5, 10, 6, 12, 7, 13);
        TownLisp x = Dues.townOf("t07;o1231;s0721;c0920");
        x.reading(0, 12, 4);
        d.due("another's is so", x.kinds(1), 7);
        x.reading(1, 7, 6);
        d.due("as a child", x.kinds(1), 4);
        d.due("another's is not so", x.kinds(0), 0);
        x.tune(1, 1);
        d.due("by its thick", x.kinds(1), 2);
        d.due("another's is so now", x.kinds(0), 1);
    }

    private static void kindsRefusals() {
        d.part("23: UNKNOWN");
        e.people("kinds", TownLisp::kinds, TownLisp.UNKNOWN);
        e.leaves("a question", Edges::busy, x -> x.kinds(0), 1);
    }

    // ---- ODDS

    private static void odds(TownLisp x, int p, int v, long upper, long lower) {
        d.due("odds " + p + " " + v + " upper", x.odds(p, v, 0), upper);
        d.due("odds " + p + " " + v + " lower", x.odds(p, v, 1), lower);
    }

    private static void oddsAtLeast() {
        d.part("24: the share by which it is IN and SAYS v at least behind a DAY from PERSON 0 on");
        // PERSON 0 has 3 alone, 4 of 7 with PERSON 1, who has 3 then, 4 alone.
        TownLisp x = Dues.townOf("t49;o0310;o0410");
        odds(x, 0, 0, 1, 2);
        odds(x, 0, 3, 1, 2);
        odds(x, 0, 4, 1, 4);
        odds(x, 0, 5, 0, 1);
        odds(x, 1, 3, 1, 2);
        odds(x, 1, 4, 1, 4);
        odds(x, 1, 5, 0, 1);
    }

    private static void oddsOfAllSets() {
        d.part("24: if any set of PEOPLE is IN, all sets alike");
        TownLisp six = Dues.townOf("t49;o0111;o0010;o0011;o0010;o0011;o0010");
        odds(six, 0, 0, 1, 2);
        odds(six, 0, 1, 1, 2);
        odds(six, 5, 1, 0, 1);
        odds(six, 5, 0, 1, 2);
        TownLisp three = Dues.townOf("t49;o0911;o0010;o0010");
        odds(three, 0, 9, 1, 8);
        odds(three, 0, 5, 3, 8);
        odds(three, 0, 4, 3, 8);
        odds(three, 0, 3, 1, 2);
        odds(three, 2, 4, 1, 8);
        odds(three, 2, 3, 1, 4);
    }

    private static void oddsOfKinds() {
        d.part("24: by what it SAYS");
        TownLisp x = Dues.townOf("t49;s0411;c0421");
        odds(x, 0, 3, 1, 2);
        odds(x, 0, 4, 0, 1);
        odds(x, 1, 4, 1, 2);
        odds(x, 1, 5, 0, 1);
        TownLisp shy = Dues.townOf("t49;s0011;s0111");
        odds(shy, 1, 0, 1, 2);
        odds(shy, 1, 1, 0, 1);
    }

    private static void oddsMost() {
        d.part("24: v (0 .. 600), the most that can be said");
        TownLisp x = Dues.townOf("t49;c3911;c3911;c3911;c3911;c3911;c3911");
        for (int p = 1; p < 6; p++) {
            x.leave(p);
        }
        x.open(0);
        odds(x, 0, 566, 1, 64);
        odds(x, 0, 567, 0, 1);
        odds(x, 0, 600, 0, 1);
    }

    private static void oddsRefusals() {
        d.part("24: LOST: UNKNOWN; OUTSIDE");
        e.people("odds", (x, p) -> x.odds(p, 0, 0), TownLisp.LOST);
        e.range("v", Edges::busy, (x, v) -> x.odds(0, v, 0), 0, 600, TownLisp.LOST);
        e.range("v, lower", Edges::busy, (x, v) -> x.odds(0, v, 1), 0, 600, TownLisp.LOST);
        e.range("which", Edges::busy, (x, which) -> x.odds(0, 0, which), 0, 1, TownLisp.LOST);
        e.leaves("a question", Edges::busy, x -> x.odds(2, 0, 1), 2);
    }
}
