/** Promises 1 to 5 and the TEXT: a test of its own for each edge that the document names. */
public final class TownEdgesTest {
    private static final Dues d = new Dues();
    private static final Edges e = new Edges(d);

    public static void main(String[] args) {
        constants();
        newObjectHasNoTown();
        newObjectHasNothingOnSheets();
        partsInTheTin();
        twoToSixPeople();
        letters();
        partsOfPeople();
        thick();
        whetherIn();
        codesBetween();
        endsTooSoon();
        firstOfSeveralFaults();
        seventhPerson();
        placeIsOfTheText();
        makesAllAnew();
        notTakenLeavesAll();
        says();
        shySaysNoneAtLeast();
        childSaysTwiceWhatGrownDoes();
        townRefusals();
        townFaults();
        townTakesNoCells();
        ofPersonEdges();
        tuneEdges();
        heardEdges();
        d.end();
    }

    private static void constants() {
        d.part("REFUSALS .. NONE is -9");
        long[] due = {-1, -2, -3, -4, -9, Long.MIN_VALUE};
        long[] got = {
            TownLisp.UNKNOWN, TownLisp.OUTSIDE, TownLisp.STATE, TownLisp.FULL, TownLisp.NONE, TownLisp.LOST,
        };
        for (int k = 0; k < due.length; k++) {
            d.due("constant " + k, got[k], due[k]);
        }
    }

    private static void newObjectHasNoTown() {
        d.part("1: No TOWN (no PEOPLE)");
        for (int p = -1; p <= 6; p++) {
            int q = p;
            e.leaves("ofPerson " + p, Edges::bare, x -> x.ofPerson(q, 0), TownLisp.UNKNOWN);
        }
        for (int what = 0; what <= 4; what++) {
            d.due("many " + what, new TownLisp().many(what), 0);
        }
        e.leaves("heard", Edges::bare, x -> x.heard(0), TownLisp.STATE);
        e.leaves("level", Edges::bare, x -> x.level(0), TownLisp.STATE);
        e.leaves("rounds", Edges::bare, x -> x.rounds(1, 0), TownLisp.STATE);
        e.leaves("mean", Edges::bare, x -> x.mean(0), TownLisp.LOST);
        e.leaves("back(0)", Edges::bare, x -> x.back(0), 0);
        e.leaves("back(1)", Edges::bare, x -> x.back(1), TownLisp.OUTSIDE);
        d.due("trace()", new TownLisp().trace(), 0);
        d.due("fault()", new TownLisp().fault(), 0);
    }

    private static void newObjectHasNothingOnSheets() {
        d.part("1: SHEETS have nothing");
        for (int k = 0; k < 4; k++) {
            int s = k;
            e.leaves("put " + k, TownLisp::new, x -> x.put(s, 0, 1), -11, 1);
            e.leaves("town " + k, TownLisp::new, x -> x.town(s, 0, 0, 0), -11, 1);
            e.leaves("year " + k, TownLisp::new, x -> x.year(s, 0, 0, 0, 0), -11, 1);
            e.leaves("copy " + k, TownLisp::new, x -> x.copy(s, 0, s, 0, 0), -11, 1);
            e.leaves("lose " + k, TownLisp::new, x -> x.lose(s), 0);
            for (int lane = 0; lane < 3; lane++) {
                int l = lane;
                e.leaves("cell " + k, TownLisp::new, x -> x.cell(s, 0, l), TownLisp.LOST, 1);
            }
        }
    }

    private static void text(String text, int due) {
        d.due(text, Dues.read(new TownLisp(), text), due);
    }

    /** Those that are taken end a TEXT of one PERSON too soon, which tells that they went on. */
    private static void goesOn(String ahead, String taken, String notTaken, String behind) {
        for (char sign : taken.toCharArray()) {
            String text = ahead + sign + behind;
            text(text, -100 - text.length());
        }
        for (char sign : notTaken.toCharArray()) {
            text(ahead + sign + behind, -100 - ahead.length());
        }
    }

    private static void partsInTheTin() {
        d.part("two digits 00 .. 49");
        for (int tin : new int[] {0, 1, 9, 10, 39, 40, 48, 49}) {
            TownLisp x = new TownLisp();
            d.due("tin " + tin, Dues.read(x, String.format("t%02d;o0010;o0010", tin)), 2);
            d.due("many(1)", x.many(1), tin);
        }
        text("t50;o0010;o0010", -101);
        text("t59;o0010;o0010", -101);
        text("t99;o0010;o0010", -101);
        goesOn("t", "01234", "/56789:", "0;o0010");
        goesOn("t4", "0123456789", "/:;", ";o0010");
    }

    private static void twoToSixPeople() {
        d.part("then 2 to 6 PEOPLE, numbered from 0 on");
        text("t07", -103);
        text("t07;o1231", -109);
        StringBuilder people = new StringBuilder("t07;o1231");
        for (int n = 2; n <= 6; n++) {
            people.append(";s0").append(n).append("21");
            TownLisp x = new TownLisp();
            d.due(n + " people", Dues.read(x, people.toString()), n);
            d.due("many(0)", x.many(0), n);
            d.due("the first", x.ofPerson(0, 1), 12);
            d.due("the last", x.ofPerson(n - 1, 1), n);
            d.due("the next", x.ofPerson(n, 1), TownLisp.UNKNOWN);
        }
        text(people + ";s0721", -139);
    }

    private static void letters() {
        d.part("; and a letter (o 111, s 115, c 99)");
        goesOn("t07;", "osc", "nprtbdOSC0;", "1231");
        TownLisp x = Dues.townOf("t07;c1231;s0721;o1231");
        d.due("c", x.ofPerson(0, 0), 2);
        d.due("s", x.ofPerson(1, 0), 1);
        d.due("o", x.ofPerson(2, 0), 0);
    }

    private static void partsOfPeople() {
        d.part("two digits 00 .. 39 (PARTS)");
        for (int parts : new int[] {0, 1, 9, 10, 38, 39}) {
            TownLisp x = new TownLisp();
            d.due("parts " + parts, Dues.read(x, String.format("t07;o0010;o%02d10", parts)), 2);
            d.due("ofPerson", x.ofPerson(1, 1), parts);
        }
        goesOn("t07;o", "0123", "/456789:", "931");
        goesOn("t07;o3", "0123456789", "/:;", "31");
        text("t07;o4031;o0010", -105);
        text("t07;o0010;o4031", -111);
    }

    private static void thick() {
        d.part("a digit 1 .. 9 (THICK)");
        goesOn("t07;o12", "123456789", "0/:;", "1");
        for (int thick = 1; thick <= 9; thick++) {
            TownLisp x = Dues.townOf("t07;o0010;o00" + thick + "0");
            d.due("thick", x.ofPerson(1, 2), thick);
        }
    }

    private static void whetherIn() {
        d.part("a digit 0, 1 (whether IN)");
        goesOn("t07;o123", "01", "/239;", "");
        TownLisp x = Dues.townOf("t07;o0011;o0010");
        d.due("1", x.ofPerson(0, 3), 1);
        d.due("0", x.ofPerson(1, 3), 0);
    }

    private static void codesBetween() {
        d.part("t 116, ; 59");
        goesOn("", "t", "suT0;", "07;o1231");
        goesOn("t07", ";", ":<,0t", "o1231");
        text("t07;o1231:o0010", -109);
        text("t07;o1231;o0010<", -115);
        for (int wrap : new int[] {256, -256, 65536}) {
            TownLisp x = new TownLisp();
            int[] codes = Dues.codes("t07;o0010;o0010");
            codes[0] += wrap;
            Dues.write(x, 0, Dues.INTS, codes);
            d.due("t and " + wrap, x.town(0, Dues.INTS, 0, 15), -100);
            Dues.write(x, 0, Dues.BYTES, codes);
            d.due("t and " + wrap + ", cut to bytes", x.town(0, Dues.BYTES, 0, 15), 2);
        }
    }

    private static void endsTooSoon() {
        d.part("how many codes there are, if it just ends too soon");
        String whole = "t49;o3991;s3991;c3991;o0010;s0010;c0010";
        for (int n = 0; n <= whole.length(); n++) {
            boolean people = n >= 15 && n % 6 == 3;
            text(whole.substring(0, n), people ? (n - 3) / 6 : -100 - n);
        }
    }

    private static void firstOfSeveralFaults() {
        d.part("the first code with which no TEXT goes on");
        text("x", -100);
        text("xyz", -100);
        text("t9x", -101);
        text("t0x;x", -102);
        text("t07x", -103);
        text("t07;o1231;x9", -110);
        text("t07;o1231;o001x", -114);
        text("t07;o1231;o0010;c0012", -120);
    }

    private static void seventhPerson() {
        d.part("the ; of a seventh PERSON");
        String six = "t07;o0010;o0010;o0010;o0010;o0010;o0010";
        text(six, 6);
        text(six + ";", -139);
        text(six + ";o", -139);
        text(six + ";o0010", -139);
        text(six + ";x", -139);
        text(six + "x", -139);
        text("t07;o0010;o0010;o0010;o0010;o0010;o0012;o0010", -138);
        text("t07;o0010;o0010;o0010;o0010;o0010;", -134);
    }

    private static void placeIsOfTheText() {
        d.part("the place (from 0 on), cells from i on");
        TownLisp x = new TownLisp();
        Dues.write(x, 0, Dues.SHORTS, Dues.codes("tt07;o1231;o0010;"));
        d.due("from 1 on", x.town(0, Dues.SHORTS, 1, 15), 2);
        d.due("from 1 on, a cell more", x.town(0, Dues.SHORTS, 1, 16), -116);
        d.due("from 0 on", x.town(0, Dues.SHORTS, 0, 17), -101);
        d.due("from 2 on", x.town(0, Dues.SHORTS, 2, 15), -100);
        d.due("the last alone", x.town(0, Dues.SHORTS, 16, 1), -100);
        d.due("t alone", x.town(0, Dues.SHORTS, 1, 1), -101);
        TownLisp full = new TownLisp();
        Dues.write(full, 3, Dues.INTS, Dues.codes("t49;o0010;o0010;o0010;o0t07;o3991;s0010;c0010;o0010;s0010;c0010;"));
        d.due("a row of more than 60 is none", full.town(3, Dues.INTS, 0, 1), -11);
        Dues.write(full, 3, Dues.INTS, Dues.codes("123456789012345678901t07;o3991;s0010;c0010;o0010;s0010;c0011"));
        d.due("its last 39 of 60", full.town(3, Dues.INTS, 21, 39), 6);
        d.due("the last one", full.ofPerson(5, 3), 1);
    }

    private static void makesAllAnew() {
        d.part("A TEXT that is taken makes all anew: no DAY has gone, no READINGS");
        TownLisp x = Edges.busy();
        int trace = x.trace();
        d.due("days that have gone", x.many(3), 1);
        d.due("readings", x.many(4), 3);
        d.due("taken", x.town(0, Dues.BYTES, 0, 15), 2);
        d.due("fault()", x.fault(), 0);
        int[] many = {2, 49, 1, 0, 0};
        for (int what = 0; what < 5; what++) {
            d.due("many " + what, x.many(what), many[what]);
        }
        int[][] due = {{0, 39, 9, 1, 4}, {1, 0, 1, 0, 0}};
        for (int p = 0; p < 2; p++) {
            for (int what = 0; what < 5; what++) {
                d.due("ofPerson " + p + " " + what, x.ofPerson(p, what), due[p][what]);
            }
            d.due("ears", x.ears(p), 1022);
            d.due("kinds", x.kinds(p), 7);
        }
        d.due("one of the town before", x.ofPerson(2, 0), TownLisp.UNKNOWN);
        d.due("the first reading's number", x.reading(0, 0, 0), 0);
        d.due("the sheets are left", x.cell(1, 5, Dues.INTS), 2);
        d.due("trace is left", x.trace(), trace);
        d.due("a larger one behind it", Dues.read(x, "t00;o0010;o0010;c3891"), 3);
        d.due("its last", x.ofPerson(2, 1), 38);
    }

    private static void notTakenLeavesAll() {
        d.part("-100 less the FIRST FAULT");
        e.leaves("none of its codes", Edges::busy, x -> x.town(0, Dues.BYTES, 0, 0), -100, 0);
        e.leaves("all but one of its codes", Edges::busy, x -> x.town(0, Dues.BYTES, 0, 14), -114, 0);
        e.leaves("from its second on", Edges::busy, x -> x.town(0, Dues.BYTES, 1, 14), -100, 0);
        e.leaves("of no text", Edges::busy, x -> x.town(1, Dues.INTS, 0, 6), -100, 0);
        e.leaves("without a town", () -> {
            TownLisp x = Edges.bare();
            Dues.write(x, 0, Dues.BYTES, Dues.codes("t07;o1231;o4010"));
            return x;
        }, x -> x.town(0, Dues.BYTES, 0, 15), -111, 0);
    }

    private static void said(char letter, int parts, int thick, int due) {
        TownLisp x = Dues.townOf(String.format("t00;o0010;%c%02d%d0", letter, parts, thick));
        d.due("" + letter + parts + " by " + thick, x.ofPerson(1, 4), due);
    }

    private static void says() {
        d.part("SAYS: a GROWN one PARTS by THICK; quotients are cut");
        said('o', 0, 1, 0);
        said('o', 1, 1, 1);
        said('o', 39, 1, 39);
        said('o', 8, 9, 0);
        said('o', 9, 9, 1);
        said('o', 17, 9, 1);
        said('o', 18, 9, 2);
        said('o', 39, 9, 4);
    }

    private static void shySaysNoneAtLeast() {
        d.part("SAYS: a SHY one 1 less (0 at least)");
        said('s', 0, 1, 0);
        said('s', 1, 1, 0);
        said('s', 2, 1, 1);
        said('s', 8, 9, 0);
        said('s', 17, 9, 0);
        said('s', 18, 9, 1);
        said('s', 39, 1, 38);
    }

    private static void childSaysTwiceWhatGrownDoes() {
        d.part("SAYS: a CHILD twice what a GROWN one does");
        said('c', 0, 1, 0);
        said('c', 1, 1, 2);
        said('c', 8, 9, 0);
        said('c', 17, 9, 2);
        said('c', 18, 9, 4);
        said('c', 39, 1, 78);
    }

    private static void townRefusals() {
        d.part("2: UNKNOWN; OUTSIDE: lane");
        e.range("sheet", Edges::busy, (x, k) -> x.town(k, 0, 0, 15), 0, 3, TownLisp.UNKNOWN, 0);
        e.range("lane", Edges::busy, (x, lane) -> x.town(0, lane, 0, 15), 0, 2, TownLisp.OUTSIDE, 0);
        e.leaves("unknown first", Edges::busy, x -> x.town(4, 3, -1, -1), TownLisp.UNKNOWN, 0);
        e.leaves("then outside, of nothing", Edges::busy, x -> x.town(3, 3, -1, -1), TownLisp.OUTSIDE, 0);
        e.leaves("then outside, of a row", Edges::busy, x -> x.town(0, -1, -1, -1), TownLisp.OUTSIDE, 0);
    }

    private static void townFaults() {
        d.part("2: FAULTS CAST (nothing is no CAST), NULL, SIZE: n is below 0, INDEX: not all cells are there");
        e.leaves("cast", Edges::busy, x -> x.town(0, 1, 0, 15), -12, 2);
        e.leaves("cast ahead of size", Edges::busy, x -> x.town(0, 2, 99, -1), -12, 2);
        e.leaves("cast of an empty row", Edges::busy, x -> x.town(2, 0, 0, 0), -12, 2);
        for (int lane = 0; lane < 3; lane++) {
            int l = lane;
            e.leaves("nothing is no cast, lane " + lane, Edges::busy, x -> x.town(3, l, 0, 15), -11, 1);
            e.leaves("nothing ahead of size, lane " + lane, Edges::busy, x -> x.town(3, l, 99, -1), -11, 1);
        }
        e.leaves("size", Edges::busy, x -> x.town(0, 0, 0, -1), -14, 4);
        e.leaves("size ahead of index", Edges::busy, x -> x.town(0, 0, -1, -1), -14, 4);
        e.leaves("least size", Edges::busy, x -> x.town(0, 0, 99, Integer.MIN_VALUE), -14, 4);
        e.leaves("a cell beyond", Edges::busy, x -> x.town(0, 0, 0, 16), -13, 3);
        e.leaves("from 1 on, a cell beyond", Edges::busy, x -> x.town(0, 0, 1, 15), -13, 3);
        e.leaves("from -1 on", Edges::busy, x -> x.town(0, 0, -1, 15), -13, 3);
        e.leaves("from 1 on, most", Edges::busy, x -> x.town(0, 0, 1, Integer.MAX_VALUE), -13, 3);
        e.leaves("from the most on", Edges::busy, x -> x.town(0, 0, Integer.MAX_VALUE, 1), -13, 3);
        e.leaves("of an empty row", Edges::busy, x -> x.town(2, 1, 0, 1), -13, 3);
    }

    private static void townTakesNoCells() {
        d.part("INDEX also where i is not 0 .. how many there are, if none of them is taken, too");
        e.leaves("at the end", Edges::busy, x -> x.town(0, 0, 15, 0), -100, 0);
        e.range("none, from", Edges::busy, (x, i) -> x.town(0, 0, i, 0), 0, 15, -13, 3);
        e.leaves("of an empty row", Edges::busy, x -> x.town(2, 1, 0, 0), -100, 0);
        e.range("none of an empty row, from", Edges::busy, (x, i) -> x.town(2, 1, i, 0), 0, 0, -13, 3);
    }

    private static void ofPersonEdges() {
        d.part("3: UNKNOWN; OUTSIDE");
        e.people("ofPerson", (x, p) -> x.ofPerson(p, 1), TownLisp.UNKNOWN);
        e.range("what", Edges::busy, (x, what) -> x.ofPerson(0, what), 0, 4, TownLisp.OUTSIDE);
        e.leaves("unknown first", Edges::busy, x -> x.ofPerson(5, 5), TownLisp.UNKNOWN);
        e.leaves("a question", Edges::busy, x -> x.ofPerson(4, 2), 5);
    }

    private static void tuneEdges() {
        d.part("4: v (1 .. 9). UNKNOWN; OUTSIDE");
        e.people("tune", (x, p) -> x.tune(p, 1), TownLisp.UNKNOWN);
        e.range("v", Edges::busy, (x, v) -> x.tune(0, v), 1, 9, TownLisp.OUTSIDE);
        e.leaves("unknown first", Edges::busy, x -> x.tune(5, 0), TownLisp.UNKNOWN);
        TownLisp x = Dues.townOf(Edges.FIVE);
        d.due("from 3 to 9", x.tune(0, 9), 3);
        d.due("from 9 to 1", x.tune(0, 1), 9);
        d.due("as it is", x.tune(0, 1), 1);
        int[] thick = {1, 2, 2, 1, 5};
        for (int p = 0; p < 5; p++) {
            d.due("thick of " + p, x.ofPerson(p, 2), thick[p]);
        }
        e.leaves("to what it is", Edges::busy, y -> y.tune(0, 3), 3);
    }

    private static void heardEdges() {
        d.part("5: OUTSIDE; STATE: there is no TOWN");
        e.range("what", Edges::busy, (x, what) -> x.heard(what), 0, 2, TownLisp.OUTSIDE);
        for (int what = 0; what < 3; what++) {
            int w = what;
            e.leaves("no town " + what, Edges::bare, x -> x.heard(w), TownLisp.STATE);
            e.leaves("nobody is in " + what, Edges::deserted, x -> x.heard(w), 0);
        }
        e.range("outside first", Edges::bare, (x, what) -> x.heard(what), 0, 2, TownLisp.OUTSIDE);
        TownLisp all = Dues.townOf("t49;c3911;c3911;c3911;c3911;c3911;c3911");
        d.due("all say", all.heard(0), 468);
        d.due("all are in", all.heard(1), 63);
        d.due("parts of all, not the tin's", all.heard(2), 234);
        TownLisp one = Dues.townOf("t49;c3910;c3910;c3910;c3910;c3910;s3911");
        d.due("one says", one.heard(0), 38);
        d.due("one is in", one.heard(1), 32);
        d.due("parts of one", one.heard(2), 39);
    }
}
