import java.util.function.Supplier;
import java.util.function.ToLongBiFunction;
import java.util.function.ToLongFunction;

/** Edges of calls: what is refused, or only asks, leaves all as it was; the numbers beside those that are taken. */
final class Edges {
    /** In place of a fault(): the call names no FAULTS, so fault() is what it was ahead of it. */
    static final int AS_IT_WAS = -1;
    static final String FIVE = "t07;o1231;s0721;c0920;o0011;s2251";

    private final Dues d;

    Edges(Dues d) {
        this.d = d;
    }

    /** A town in which each thing that a call could change is not as it was at first; its latest FAULT is INDEX. */
    static TownLisp busy() {
        TownLisp x = Dues.townOf(FIVE);
        x.day(1);
        x.reading(0, 12, 4);
        x.reading(1, 9, 3);
        x.reading(4, 20, 3);
        x.tell(2);
        Dues.write(x, 0, Dues.BYTES, Dues.codes("t49;o3991;s0010"));
        Dues.write(x, 1, Dues.INTS, 0, 0, 1, 1, 2, 2);
        x.sheet(2, Dues.SHORTS, 0);
        x.put(0, -1, 0);
        return x;
    }

    /** No TOWN, all SHEETS have nothing; its latest FAULT is NULL. */
    static TownLisp bare() {
        TownLisp x = new TownLisp();
        x.put(0, 0, 0);
        return x;
    }

    /** A town in which nobody is IN; its latest FAULT is NULL. */
    static TownLisp deserted() {
        TownLisp x = Dues.townOf("t05;o0110;s0310;c0010");
        x.put(0, 0, 0);
        return x;
    }

    /** Against an object of the same making on which the call was not done. */
    void leaves(String what, Supplier<TownLisp> making, ToLongFunction<TownLisp> call, long want, int fault) {
        TownLisp x = making.get();
        TownLisp other = making.get();
        d.due(what, call.applyAsLong(x), want);
        d.due(what + ": fault()", x.fault(), fault == AS_IT_WAS ? other.fault() : fault);
        d.holds(what + ": nothing is changed", butFault(x).equals(butFault(other)));
    }

    /** Of a call that names no FAULTS. */
    void leaves(String what, Supplier<TownLisp> making, ToLongFunction<TownLisp> call, long want) {
        leaves(what, making, call, want, AS_IT_WAS);
    }

    /** The first and the last that are taken; those beside them, and the ends of all ints, are refused. */
    void range(String what, Supplier<TownLisp> making, ToLongBiFunction<TownLisp, Integer> call,
            int first, int last, long refusal, int fault) {
        for (int v : new int[] {first, last}) {
            d.holds(what + " " + v + " is taken", call.applyAsLong(making.get(), v) != refusal);
        }
        for (int v : new int[] {Integer.MIN_VALUE, first - 1, last + 1, Integer.MAX_VALUE}) {
            leaves(what + " " + v, making, x -> call.applyAsLong(x, v), refusal, fault);
        }
    }

    /** Of a call that names no FAULTS. */
    void range(String what, Supplier<TownLisp> making, ToLongBiFunction<TownLisp, Integer> call,
            int first, int last, long refusal) {
        range(what, making, call, first, last, refusal, AS_IT_WAS);
    }

    /** PERSON 0 and the last one of towns of 2, 5 and 6, and nobody without a TOWN. */
    void people(String what, ToLongBiFunction<TownLisp, Integer> call, long refusal, int fault) {
        String[] texts = {
            "t07;c1231;c0721", "t07;c1231;c0721;c0921;c0911;c2251", "t49;c3991;c3991;c3991;c3991;c3991;c3991",
        };
        int[] last = {1, 4, 5};
        for (int t = 0; t < texts.length; t++) {
            String text = texts[t];
            range(what + ", person", () -> faulty(text), call, 0, last[t], refusal, fault);
        }
        for (int p : new int[] {-1, 0, 1}) {
            leaves(what + " of no town, person " + p, Edges::bare, x -> call.applyAsLong(x, p), refusal, fault);
        }
    }

    void people(String what, ToLongBiFunction<TownLisp, Integer> call, long refusal) {
        people(what, call, refusal, AS_IT_WAS);
    }

    /** Its latest FAULT is NULL. */
    private static TownLisp faulty(String text) {
        TownLisp x = Dues.townOf(text);
        x.put(0, 0, 0);
        return x;
    }

    private static String butFault(TownLisp x) {
        String look = Dues.lastLook(x);
        return look.substring(look.indexOf(" trace "));
    }
}
