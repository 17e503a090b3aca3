import java.util.Arrays;
import java.util.Random;

/** Any arguments in any state: no call throws, what is refused changes nothing, the same calls answer the same. */
public final class AnyCallTest {
    private static final Dues d = new Dues();
    private static final int OBJECTS = 2000, CALLS = 50, FACE = 34;
    private static final int[] EDGES = {
        Integer.MIN_VALUE, Integer.MIN_VALUE + 1, -101, -100, -1, 59, 60, 61, 99, 100, 101, 300, 301, 600, 601,
        Integer.MAX_VALUE - 1, Integer.MAX_VALUE,
    };

    public static void main(String[] args) {
        Random random = new Random(35);
        for (int object = 0; object < OBJECTS; object++) {
            oneLife(random, object);
        }
        fullLife();
        d.end();
    }

    /** Three alike: one does all calls, one does them again, one does but those that were not refused. */
    private static void oneLife(Random random, int object) {
        TownLisp x = new TownLisp();
        TownLisp twin = new TownLisp();
        TownLisp spared = new TownLisp();
        prepare(random, object, x, twin, spared);
        for (int turn = 0; turn < CALLS; turn++) {
            int which = random.nextInt(FACE);
            int[] a = {any(random), any(random), any(random), any(random), any(random)};
            d.part("object " + object + ", call " + which + " of " + Arrays.toString(a));
            long got = call(x, which, a);
            d.due("its twin", call(twin, which, a), got);
            if (got <= -11 && got >= -14 && which != 32 && which != 27) {
                d.due("fault()", x.fault(), -10 - got);
            }
            // TRACE and cells may be below 0, and fault() is the one thing that a refused call changes.
            boolean refused = got == TownLisp.LOST || got < 0 && which != 32 && which != 27;
            if (!refused && which != 33) {
                d.due("one that was spared refused calls", call(spared, which, a), got);
            }
        }
        d.part("object " + object);
        String look = Dues.lastLook(x);
        d.holds("its twin is as it is", look.equals(Dues.lastLook(twin)));
        d.holds("refused calls change nothing", butFault(look).equals(butFault(Dues.lastLook(spared))));
    }

    private static String butFault(String look) {
        return look.substring(look.indexOf(" trace "));
    }

    private static void prepare(Random random, int object, TownLisp... alike) {
        if (object % 4 == 0) {
            return;
        }
        String[] texts = {
            "t00;o0010;s0010", "t07;o1231;s0721;c0920;o0011;s2251", "t49;o3991;s3991;c3991;o3991;s3991;c3991",
        };
        String text = texts[random.nextInt(texts.length)];
        for (TownLisp one : alike) {
            Dues.read(one, text);
            Dues.write(one, 0, 0, Dues.codes(text));
            Dues.write(one, 1, object % 3, 0, 0, 1, 3, 1, 4, 1, 1, 1, 2);
        }
    }

    private static int any(Random random) {
        int from = random.nextInt(4);
        if (from == 0) {
            return EDGES[random.nextInt(EDGES.length)];
        }
        return from == 1 ? random.nextInt(22) - 1 : random.nextInt(5);
    }

    private static long call(TownLisp x, int which, int[] a) {
        switch (which) {
            case 0: return x.town(a[0], a[1], a[2], a[3]);
            case 1: return x.ofPerson(a[0], a[1]);
            case 2: return x.tune(a[0], a[1]);
            case 3: return x.heard(a[0]);
            case 4: return x.day(a[0]);
            case 5: return x.leave(a[0]);
            case 6: return x.come(a[0]);
            case 7: return x.gather(a[0]);
            case 8: return x.pack(a[0], a[1]);
            case 9: return x.open(a[0]);
            case 10: return x.year(a[0], a[1], a[2], a[3], a[4]);
            case 11: return x.asked(a[0], a[1], a[2]);
            case 12: return x.gatherings(a[0], a[1]);
            case 13: return x.level(a[0]);
            case 14: return x.were(a[0], a[1], a[2]);
            case 15: return x.rounds(a[0], a[1]);
            case 16: return x.worth(a[0], a[1]);
            case 17: return x.mean(a[0]);
            case 18: return x.reading(a[0], a[1], a[2]);
            case 19: return x.back(a[0]);
            case 20: return x.ears(a[0]);
            case 21: return x.kinds(a[0]);
            case 22: return x.odds(a[0], a[1], a[2]);
            case 23: return x.sheet(a[0], a[1], a[2]);
            case 24: return x.lose(a[0]);
            case 25: return x.put(a[0], a[1], a[2]);
            case 26: return x.copy(a[0], a[1], a[2], a[3], a[4]);
            case 27: return x.cell(a[0], a[1], a[2]);
            case 28: return x.tell(a[0]);
            case 29: return x.call(a[0]);
            case 30: return x.as(a[0], a[1]);
            case 31: return x.many(a[0]);
            case 32: return x.trace();
            default: return x.fault();
        }
    }

    /** Towns in which calls go round all acts, up to near the 512th: PARTS are neither made nor lost. */
    private static void fullLife() {
        Random random = new Random(512);
        String[] texts = {"t49;o3991;s3991;c3991;o3991;s3991;c3991", "t01;o0011;s0110", "t00;o0711;s0511;c0011;o3910"};
        int[] all = {283, 2, 51};
        for (int t = 0; t < texts.length; t++) {
            TownLisp x = Dues.townOf(texts[t]);
            d.part("a full life of " + texts[t]);
            for (int turn = 1; turn <= 400; turn++) {
                int[] a = {random.nextInt(6), 1 + random.nextInt(40)};
                call(x, 4 + random.nextInt(6), a);
                if (turn % 50 == 0) {
                    d.due("all parts, turn " + turn, allParts(x), all[t]);
                }
            }
        }
    }

    private static int allParts(TownLisp x) {
        int people = x.many(0);
        int sum = x.many(1);
        for (int p = 0; p < people; p++) {
            sum += x.ofPerson(p, 1);
        }
        return sum;
    }
}
