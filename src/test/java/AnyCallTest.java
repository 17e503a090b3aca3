import java.util.Random;

/** Any arguments in any state: no call throws, what is refused changes nothing, the same calls answer the same. */
public final class AnyCallTest {
    private static final Dues d = new Dues();
    private static final int OBJECTS = 600, CALLS = 60, FACE = 35;
    private static final int[] EDGES = {
        Integer.MIN_VALUE, Integer.MIN_VALUE + 1, -101, -100, -1, 59, 60, 61, 99, 100, 101, 300, 301, 600, 601,
        Integer.MAX_VALUE - 1, Integer.MAX_VALUE,
    };

    public static void main(String[] args) {
        Random random = new Random(35);
        for (int object = 0; object < OBJECTS; object++) {
            TownLisp x = new TownLisp();
            TownLisp twin = new TownLisp();
            prepare(x, twin, random, object);
            for (int turn = 0; turn < CALLS; turn++) {
                oneCall(x, twin, random);
            }
        }
        fullLife();
        d.end();
    }

    private static void prepare(TownLisp x, TownLisp twin, Random random, int object) {
        if (object % 4 == 0) {
            return;
        }
        String[] texts = {
            "t00;o0010;s0010", "t07;o1231;s0721;c0920;o0011;s2251", "t49;o3991;s3991;c3991;o3991;s3991;c3991",
        };
        String text = texts[random.nextInt(texts.length)];
        for (TownLisp one : new TownLisp[] {x, twin}) {
            Dues.read(one, text);
            Dues.write(one, 0, 0, Dues.codes(text));
            Dues.write(one, 1, object % 3, 0, 0, 1, 3, 1, 4, 1, 1, 1, 2);
        }
    }

    private static int any(Random random) {
        int from = random.nextInt(4);
        if (from == 0) {
            return EDGES[random.nextInt(EDGES.length)];
        }
        return from == 1 ? random.nextInt(22) - 1 : random.nextInt(5);
    }

    private static void oneCall(TownLisp x, TownLisp twin, Random random) {
        int which = random.nextInt(FACE - 1);
        int[] a = {any(random), any(random), any(random), any(random), any(random)};
        String call = "call " + which + " of " + java.util.Arrays.toString(a);
        d.part(call);
        int faultBefore = x.fault();
        String before = Dues.seenButFault(x);
        // Looking at it all ends with a call that names faults; the twin is looked at alike.
        Dues.seenButFault(twin);
        long got = call(x, which, a);
        int fault = x.fault();
        d.due(call + ", its twin", call(twin, which, a), got);
        d.due("fault() of its twin", twin.fault(), fault);
        String after = Dues.seenButFault(x);
        d.holds("its twin is as it is", after.equals(Dues.seenButFault(twin)));
        boolean refused = got == TownLisp.LOST || got < 0 && !(which == 32 || which == 27);
        if (refused) {
            d.holds("what is refused changes nothing", before.equals(after));
        }
        if (got <= -11 && got >= -14 && which != 32) {
            d.due("fault()", fault, -10 - got);
        }
        d.holds("faults are 0 .. 4, it was " + faultBefore, fault >= 0 && fault <= 4);
    }

    private static long call(TownLisp x, int which, int[] a) {
        switch (which) {
            case 0: return x.town(a[0], a[1], a[2], a[3]);
            case 1: return x.ofPerson(a[0], a[1]);
            case 2: return x.tune(a[0], a[1]);
            case 3: return x.heard(a[0]);
            case 4: return x.day(a[0]);
            case 5: return x.leave(a[0]);
            case 6: return x.come(a[0]);
            case 7: return x.gather(a[0]);
            case 8: return x.pack(a[0], a[1]);
            case 9: return x.open(a[0]);
            case 10: return x.year(a[0], a[1], a[2], a[3], a[4]);
            case 11: return x.asked(a[0], a[1], a[2]);
            case 12: return x.gatherings(a[0], a[1]);
            case 13: return x.level(a[0]);
            case 14: return x.were(a[0], a[1], a[2]);
            case 15: return x.rounds(a[0], a[1]);
            case 16: return x.worth(a[0], a[1]);
            case 17: return x.mean(a[0]);
            case 18: return x.reading(a[0], a[1], a[2]);
            case 19: return x.back(a[0]);
            case 20: return x.ears(a[0]);
            case 21: return x.kinds(a[0]);
            case 22: return x.odds(a[0], a[1], a[2]);
            case 23: return x.sheet(a[0], a[1], a[2]);
            case 24: return x.lose(a[0]);
            case 25: return x.put(a[0], a[1], a[2]);
            case 26: return x.copy(a[0], a[1], a[2], a[3], a[4]);
            case 27: return x.cell(a[0], a[1], a[2]);
            case 28: return x.tell(a[0]);
            case 29: return x.call(a[0]);
            case 30: return x.as(a[0], a[1]);
            case 31: return x.many(a[0]);
            case 32: return x.trace();
            default: return x.fault();
        }
    }

    /** Two towns in which 512 calls go round all acts: PARTS are neither made nor lost. */
    private static void fullLife() {
        Random random = new Random(512);
        String[] texts = {"t49;o3991;s3991;c3991;o3991;s3991;c3991", "t01;o0011;s0110"};
        int[] all = {283, 2};
        for (int t = 0; t < texts.length; t++) {
            TownLisp x = Dues.townOf(texts[t]);
            d.part("a full life of " + texts[t]);
            for (int turn = 0; turn < 460; turn++) {
                int[] a = {random.nextInt(6), 1 + random.nextInt(40)};
                call(x, 4 + random.nextInt(6), a);
                int sum = x.many(1);
                for (int p = 0; p < x.many(0); p++) {
                    sum += x.ofPerson(p, 1);
                }
                d.due("all parts, turn " + turn, sum, all[t]);
            }
        }
    }
}
