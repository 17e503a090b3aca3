/** Promises 1 to 5: a new object, the town and its TEXT. */
public final class TownTest {
    private static final String FIVE = "t07;o1231;s0721;c0920;o0011;s2251";
    private static final Dues d = new Dues();

    public static void main(String[] args) {
        promise1NewObject();
        promise2Taken();
        promise2FirstFault();
        promise2MakesAllAnew();
        promise3OfPerson();
        promise4Tune();
        promise5Heard();
        d.end();
    }

    private static void promise1NewObject() {
        d.part("promise 1");
        TownLisp x = new TownLisp();
        d.due("fault()", x.fault(), 0);
        d.due("trace()", x.trace(), 0);
        for (int what = 0; what < 5; what++) {
            d.due("many " + what, x.many(what), 0);
        }
        for (int p = -1; p < 7; p++) {
            d.due("ofPerson " + p, x.ofPerson(p, 0), TownLisp.UNKNOWN);
        }
        for (int k = 0; k < 4; k++) {
            d.due("put " + k, x.put(k, 0, 1), -11);
            d.due("cell " + k, x.cell(k, 0, 2), TownLisp.LOST);
            d.due("fault()", x.fault(), 1);
            d.due("lose " + k, x.lose(k), 0);
        }
        d.due("heard(0)", x.heard(0), TownLisp.STATE);
        d.due("UNKNOWN", TownLisp.UNKNOWN, -1);
        d.due("OUTSIDE", TownLisp.OUTSIDE, -2);
        d.due("STATE", TownLisp.STATE, -3);
        d.due("FULL", TownLisp.FULL, -4);
        d.due("NONE", TownLisp.NONE, -9);
        d.due("LOST", TownLisp.LOST, Long.MIN_VALUE);
    }

    private static void promise2Taken() {
        d.part("promise 2");
        String person = ";c3999";
        String[] texts = {"t00;o0010;s0010", FIVE, "t49;o3991;o3991;o3991;o3991;o3991;o3991"};
        int[] people = {2, 5, 6};
        for (int t = 0; t < texts.length; t++) {
            for (int lane = 0; lane < 3; lane++) {
                TownLisp x = new TownLisp();
                Dues.write(x, lane, lane, Dues.codes("xx" + texts[t] + "yy"));
                d.due(texts[t], x.town(lane, lane, 2, texts[t].length()), people[t]);
                d.due("fault()", x.fault(), 0);
                d.due("many(0)", x.many(0), people[t]);
            }
        }
        TownLisp x = new TownLisp();
        Dues.read(x, "t49;o3991;s0010;c2871");
        d.due("many(1)", x.many(1), 49);
        d.due("many(2)", x.many(2), 2);
        int[][] due = {{0, 39, 9, 1, 4}, {1, 0, 1, 0, 0}, {2, 28, 7, 1, 8}};
        for (int p = 0; p < 3; p++) {
            for (int what = 0; what < 5; what++) {
                d.due("ofPerson " + p + " " + what, x.ofPerson(p, what), due[p][what]);
            }
        }
        d.due("a person of wrong IN", Dues.read(x, "t00" + person), -108);
    }

    private static void promise2FirstFault() {
        d.part("promise 2, first fault");
        String most = "t49;o3991;s3991;c3991;o0010;s0010;c0010";
        for (int n = 0; n < most.length(); n++) {
            boolean whole = n >= 15 && n % 6 == 3;
            d.due("first " + n, Dues.read(new TownLisp(), most.substring(0, n)), whole ? (n - 3) / 6 : -100 - n);
        }
        String[] goesOn = {"t", "01234", "0123456789", ";", "osc", "0123", "0123456789", "123456789", "01"};
        for (int place = 0; place < most.length(); place++) {
            String allowed = goesOn[place < 3 ? place : 3 + (place - 3) % 6];
            for (int code = 0; code < 128; code++) {
                String text = most.substring(0, place) + (char) code;
                int ended = place + 1 >= 15 && (place + 1) % 6 == 3 ? (place - 2) / 6 : -100 - place - 1;
                d.due("place " + place + " code " + code, readAt(text),
                        allowed.indexOf(code) >= 0 ? ended : -100 - place);
            }
        }
        TownLisp x = new TownLisp();
        d.due("a seventh person", Dues.read(x, most + ";o0010"), -139);
        d.due("another code behind the sixth", Dues.read(x, most + "t"), -139);
        d.due("two wrong codes, the first", Dues.read(x, "t0a;o12x"), -102);
        codesOfOtherLanes();
    }

    private static int readAt(String text) {
        TownLisp x = new TownLisp();
        Dues.write(x, 0, Dues.SHORTS, Dues.codes("t0" + text));
        return x.town(0, Dues.SHORTS, 2, text.length());
    }

    private static void codesOfOtherLanes() {
        TownLisp x = new TownLisp();
        int[] codes = Dues.codes(FIVE);
        codes[0] += 256;
        Dues.write(x, 0, Dues.BYTES, codes);
        d.due("a byte is cut to t", x.town(0, Dues.BYTES, 0, codes.length), 5);
        Dues.write(x, 0, Dues.SHORTS, codes);
        d.due("a short is not", x.town(0, Dues.SHORTS, 0, codes.length), -100);
        codes[0] += 65536 - 256;
        Dues.write(x, 0, Dues.SHORTS, codes);
        d.due("a short is cut to t", x.town(0, Dues.SHORTS, 0, codes.length), 5);
        codes[4] += 65536;
        Dues.write(x, 0, Dues.INTS, codes);
        d.due("an int is not", x.town(0, Dues.INTS, 0, codes.length), -100);
        codes[0] = 't';
        Dues.write(x, 0, Dues.INTS, codes);
        d.due("nor is the letter", x.town(0, Dues.INTS, 0, codes.length), -104);
    }

    private static void promise2MakesAllAnew() {
        d.part("promise 2, all anew");
        TownLisp x = Dues.townOf(FIVE);
        x.day(0);
        x.reading(0, 1, 1);
        x.tune(0, 9);
        x.tell(0);
        d.due("a text not taken", Dues.read(x, "t07;o1231"), -109);
        d.due("days are left", x.many(3), 1);
        d.due("readings are left", x.many(4), 1);
        d.due("a text taken", Dues.read(x, "t01;o0011;s0021"), 2);
        d.due("no day has gone", x.many(3), 0);
        d.due("no readings", x.many(4), 0);
        d.due("thick is new", x.ofPerson(0, 2), 1);
        d.due("the tin is new", x.many(1), 1);
        d.due("who is in is new", x.heard(1), 3);
        d.due("one of the old town", x.ofPerson(2, 0), TownLisp.UNKNOWN);
        d.due("ears are new", x.ears(0), 1022);
        d.due("trace is of the object", x.trace(), 1);
    }

    private static void promise3OfPerson() {
        d.part("promise 3");
        TownLisp x = Dues.townOf("t07;o1231;s0721;c0920;o0011;s0251");
        int[][] due = {{0, 12, 3, 1, 4}, {1, 7, 2, 1, 2}, {2, 9, 2, 0, 8}, {0, 0, 1, 1, 0}, {1, 2, 5, 1, 0}};
        for (int p = 0; p < due.length; p++) {
            for (int what = 0; what < 5; what++) {
                d.due("ofPerson " + p + " " + what, x.ofPerson(p, what), due[p][what]);
            }
            d.due("what -1", x.ofPerson(p, -1), TownLisp.OUTSIDE);
            d.due("what 5", x.ofPerson(p, 5), TownLisp.OUTSIDE);
        }
        d.due("no person -1", x.ofPerson(-1, 9), TownLisp.UNKNOWN);
        d.due("no person 5", x.ofPerson(5, 9), TownLisp.UNKNOWN);
    }

    private static void promise4Tune() {
        d.part("promise 4");
        TownLisp x = Dues.townOf(FIVE);
        d.due("tune", x.tune(0, 9), 3);
        d.due("again", x.tune(0, 1), 9);
        d.due("thick", x.ofPerson(0, 2), 1);
        d.due("says", x.ofPerson(0, 4), 12);
        d.due("one who is not in", x.tune(2, 9), 2);
        d.due("says", x.ofPerson(2, 4), 2);
        d.due("v 0", x.tune(0, 0), TownLisp.OUTSIDE);
        d.due("v 10", x.tune(0, 10), TownLisp.OUTSIDE);
        d.due("thick is left", x.ofPerson(0, 2), 1);
        d.due("no person 5", x.tune(5, 0), TownLisp.UNKNOWN);
        d.due("no person -1", x.tune(-1, 1), TownLisp.UNKNOWN);
    }

    private static void promise5Heard() {
        d.part("promise 5");
        TownLisp x = Dues.townOf(FIVE);
        d.due("say", x.heard(0), 9);
        d.due("who", x.heard(1), 27);
        d.due("parts", x.heard(2), 41);
        d.due("what 3", x.heard(3), TownLisp.OUTSIDE);
        d.due("what -1", x.heard(-1), TownLisp.OUTSIDE);
        TownLisp empty = Dues.townOf("t07;o1230;s0720");
        for (int what = 0; what < 3; what++) {
            d.due("nobody is in " + what, empty.heard(what), 0);
            d.due("no town " + what, new TownLisp().heard(what), TownLisp.STATE);
        }
        d.due("no town, what 3", new TownLisp().heard(3), TownLisp.OUTSIDE);
    }
}
