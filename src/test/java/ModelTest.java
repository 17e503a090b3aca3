import java.util.ArrayList;
import java.util.List;
import java.util.Random;

/** Many towns and runs of acts, against a town that goes one PART, one order, one take at a time. */
public final class ModelTest {
    private static final Dues d = new Dues();
    private static final int TOWNS = 400, ACTS = 25;

    public static void main(String[] args) {
        for (int t = 0; t < TOWNS; t++) {
            // Each part has an object of its own, as an object's calls are promised up to the 512th.
            for (int part = 0; part < 3; part++) {
                oneTown(new Random(20261118 + t), part);
            }
        }
        d.end();
    }

    private static void oneTown(Random random, int part) {
        Model m = Model.any(random);
        TownLisp x = Dues.townOf(m.text());
        d.part(m.text());
        same(x, m);
        for (int a = 0; a < ACTS; a++) {
            act(x, m, random);
        }
        same(x, m);
        switch (part) {
            case 0:
                questions(x, m, random);
                break;
            case 1:
                years(x, m, random);
                break;
            default:
                readings(x, m, random);
                break;
        }
        same(x, m);
    }

    private static void same(TownLisp x, Model m) {
        int inside = 0;
        int parts = 0;
        int say = 0;
        for (int p = 0; p < m.count; p++) {
            d.due("kind of " + p, x.ofPerson(p, 0), m.kind[p]);
            d.due("parts of " + p, x.ofPerson(p, 1), m.parts[p]);
            d.due("thick of " + p, x.ofPerson(p, 2), m.thick[p]);
            d.due("in " + p, x.ofPerson(p, 3), m.in[p] ? 1 : 0);
            d.due("says " + p, x.ofPerson(p, 4), m.says(p));
            inside |= m.in[p] ? 1 << p : 0;
            parts += m.in[p] ? m.parts[p] : 0;
            say += m.in[p] ? m.says(p) : 0;
        }
        d.due("heard(0)", x.heard(0), say);
        d.due("heard(1)", x.heard(1), inside);
        d.due("heard(2)", x.heard(2), parts);
        d.due("many(0)", x.many(0), m.count);
        d.due("many(1)", x.many(1), m.tin);
        d.due("many(2)", x.many(2), m.heads());
        d.due("many(3)", x.many(3), m.days);
    }

    private static void act(TownLisp x, Model m, Random random) {
        int p = random.nextInt(m.count);
        int what = random.nextInt(7);
        int n = 1 + random.nextInt(20);
        int thick = 1 + random.nextInt(9);
        switch (what) {
            case 0:
                d.due("day " + p, x.day(p), m.act(p, 0));
                m.days += m.heads() > 0 ? 1 : 0;
                break;
            case 1:
                d.due("leave " + p, x.leave(p), m.act(p, 1));
                break;
            case 2:
                d.due("come " + p, x.come(p), m.act(p, 2));
                break;
            case 3:
                d.due("gather " + p, x.gather(p), m.act(p, 3));
                break;
            case 4:
                d.due("open " + p, x.open(p), m.act(p, 4));
                break;
            case 5:
                d.due("pack " + p + " " + n, x.pack(p, n), m.pack(p, n));
                break;
            default:
                d.due("tune " + p + " " + thick, x.tune(p, thick), m.thick[p]);
                m.thick[p] = thick;
                break;
        }
    }

    private static void questions(TownLisp x, Model m, Random random) {
        for (int p = 0; p < m.count; p++) {
            for (int turn = 0; turn < 4; turn++) {
                int v = turn == 0 ? m.parts[p] : random.nextInt(turn == 1 ? 300 : 60);
                d.due("asked " + p + " " + v, x.asked(p, v, 0), m.asked(p, v, 0));
                d.due("asked parts " + p + " " + v, x.asked(p, v, 1), m.asked(p, v, 1));
                d.due("gatherings " + p + " " + v, x.gatherings(p, v), m.gatherings(p, v));
                for (int what = 0; what < 3; what++) {
                    d.due("were " + p + " " + v + " " + what, x.were(p, v, what), m.were(p, v, what));
                }
                for (int which = 0; which < 2; which++) {
                    d.due("odds " + p + " " + v / 4, x.odds(p, v / 4, which), m.odds(p, v / 4, which));
                }
            }
            for (int which = 0; which < 2; which++) {
                d.due("worth " + p, x.worth(p, which), m.worth(p, which));
            }
        }
        for (int what = 0; what < 2; what++) {
            d.due("level " + what, x.level(what), m.level(what));
            d.due("mean " + what, x.mean(what), m.mean(what));
            for (int k = 1; k <= 9; k++) {
                d.due("rounds " + k + " " + what, x.rounds(k, what), m.rounds(k, what));
            }
        }
    }

    private static void years(TownLisp x, Model m, Random random) {
        for (int turn = 0; turn < 4; turn++) {
            int n = random.nextInt(turn == 0 ? 21 : 5);
            int[] pairs = new int[2 * n];
            for (int k = 0; k < n; k++) {
                pairs[2 * k] = random.nextInt(m.count);
                pairs[2 * k + 1] = random.nextInt(5);
            }
            int lane = random.nextInt(3);
            Dues.write(x, 2, lane, pairs);
            for (int what : new int[] {0, 1, 2, 3, 10, 11, 12, 13, 14, 15}) {
                d.due("year " + what, x.year(2, lane, 0, n, what), m.year(pairs, what));
            }
        }
    }

    private static void readings(TownLisp x, Model m, Random random) {
        List<int[]> all = new ArrayList<>();
        for (int r = 0; r < 8; r++) {
            int p = random.nextInt(m.count);
            int parts = random.nextInt(40);
            boolean honest = random.nextInt(8) != 0;
            int v = honest ? m.says(m.kind[p], parts, m.thick[p]) : random.nextInt(10);
            d.due("reading", x.reading(p, parts, v), r);
            all.add(new int[] {p, parts, v});
            for (int q = 0; q < m.count; q++) {
                d.due("ears " + q, x.ears(q), m.ears(all, q));
                d.due("kinds " + q, x.kinds(q), m.kinds(all, q));
            }
        }
    }

    /** The document's words, taken step by step. */
    private static final class Model {
        final int count;
        final int[] kind;
        final int[] parts;
        final int[] thick;
        final boolean[] in;
        int tin;
        int days;

        Model(int count) {
            this.count = count;
            kind = new int[count];
            parts = new int[count];
            thick = new int[count];
            in = new boolean[count];
        }

        static Model any(Random random) {
            Model m = new Model(2 + random.nextInt(5));
            int most = random.nextBoolean() ? 40 : 6;
            m.tin = random.nextInt(random.nextBoolean() ? 50 : 4);
            for (int p = 0; p < m.count; p++) {
                m.kind[p] = random.nextInt(3);
                m.parts[p] = random.nextInt(most);
                m.thick[p] = 1 + random.nextInt(9);
                m.in[p] = random.nextInt(4) != 0;
            }
            return m;
        }

        Model again() {
            Model m = new Model(count);
            for (int p = 0; p < count; p++) {
                m.kind[p] = kind[p];
                m.parts[p] = parts[p];
                m.thick[p] = thick[p];
                m.in[p] = in[p];
            }
            m.tin = tin;
            return m;
        }

        Model withIn(int set) {
            Model m = again();
            for (int p = 0; p < count; p++) {
                m.in[p] = (set & 1 << p) != 0;
            }
            return m;
        }

        String text() {
            StringBuilder text = new StringBuilder(String.format("t%02d", tin));
            for (int p = 0; p < count; p++) {
                text.append(String.format(";%c%02d%d%d", "osc".charAt(kind[p]), parts[p], thick[p], in[p] ? 1 : 0));
            }
            return text.toString();
        }

        int heads() {
            int heads = 0;
            for (boolean one : in) {
                heads += one ? 1 : 0;
            }
            return heads;
        }

        int says(int p) {
            return says(kind[p], parts[p], thick[p]);
        }

        int says(int ofKind, int withParts, int withThick) {
            int grown = withParts / withThick;
            if (ofKind == 0) {
                return grown;
            }
            if (ofKind == 1) {
                return grown == 0 ? 0 : grown - 1;
            }
            return grown + grown;
        }

        int act(int p, int what) {
            switch (what) {
                case 0:
                    return day(p);
                case 1:
                    return leave(p);
                case 2:
                    if (in[p]) {
                        return TownLisp.STATE;
                    }
                    in[p] = true;
                    return heads();
                case 3:
                    return gather(p);
                default:
                    if (!in[p] || tin == 0) {
                        return TownLisp.STATE;
                    }
                    int was = tin;
                    parts[p] += was;
                    tin = 0;
                    return was;
            }
        }

        int day(int first) {
            if (heads() == 0) {
                return TownLisp.STATE;
            }
            int all = 0;
            for (int p = 0; p < count; p++) {
                if (in[p]) {
                    all += parts[p];
                    parts[p] = 0;
                }
            }
            int each = 0;
            while (all >= heads()) {
                for (int p = 0; p < count; p++) {
                    if (in[p]) {
                        parts[p]++;
                        all--;
                    }
                }
                each++;
            }
            for (int p = first; all > 0; p = p + 1 == count ? 0 : p + 1) {
                if (in[p]) {
                    parts[p]++;
                    all--;
                }
            }
            return each;
        }

        int leave(int p) {
            if (!in[p]) {
                return TownLisp.STATE;
            }
            in[p] = false;
            int had = parts[p];
            parts[p] = 0;
            int left = had;
            if (heads() == 0) {
                tin += left;
                return had;
            }
            while (left > 0) {
                for (int q = 0; q < count && left > 0; q++) {
                    if (in[q]) {
                        parts[q]++;
                        left--;
                    }
                }
            }
            return had;
        }

        int gather(int p) {
            if (!in[p]) {
                return TownLisp.STATE;
            }
            int gave = 0;
            for (int q = 0; q < count; q++) {
                if (q != p && in[q] && parts[q] > 0) {
                    parts[q]--;
                    parts[p]++;
                    gave++;
                }
            }
            return gave;
        }

        int pack(int p, int n) {
            if (parts[p] < n) {
                return TownLisp.STATE;
            }
            parts[p] -= n;
            tin += n;
            return tin;
        }

        int year(int[] pairs, int what) {
            Model m = again();
            int wrong = TownLisp.NONE;
            for (int k = 0; k < pairs.length / 2 && wrong == TownLisp.NONE; k++) {
                if (m.act(pairs[2 * k], pairs[2 * k + 1]) == TownLisp.STATE) {
                    wrong = k;
                }
            }
            if (what == 1) {
                return wrong;
            }
            if (wrong != TownLisp.NONE) {
                return -100 - wrong;
            }
            if (what >= 10) {
                return what - 10 < count ? m.parts[what - 10] : TownLisp.NONE;
            }
            int set = 0;
            int say = 0;
            for (int p = 0; p < count; p++) {
                set |= m.in[p] ? 1 << p : 0;
                say += m.in[p] ? m.says(p) : 0;
            }
            return what == 0 ? m.tin : what == 2 ? set : say;
        }

        int asked(int p, int v, int what) {
            for (int size = 0; size <= count; size++) {
                for (int had = v; had <= 300; had++) {
                    for (int set = 0; set < 1 << count; set++) {
                        if (Integer.bitCount(set) == size && partsIfGiven(p, set) == had) {
                            return what == 0 ? set : had;
                        }
                    }
                }
            }
            return TownLisp.NONE;
        }

        int partsIfGiven(int p, int set) {
            int sum = parts[p];
            for (int q = 0; q < count; q++) {
                if ((set & 1 << q) != 0) {
                    if (q == p || !in[q]) {
                        return -1;
                    }
                    sum += parts[q];
                }
            }
            return sum;
        }

        int gatherings(int p, int v) {
            Model m = again();
            m.in[p] = true;
            for (int times = 0; ; times++) {
                if (m.parts[p] >= v) {
                    return times;
                }
                if (m.gather(p) == 0) {
                    return TownLisp.NONE;
                }
            }
        }

        int level(int what) {
            if (heads() == 0) {
                return TownLisp.STATE;
            }
            Model m = again();
            // The lowest one gets the next PART, as long as all lowest ones can get one.
            while (true) {
                int lowest = 1000;
                int those = 0;
                for (int p = 0; p < count; p++) {
                    if (in[p] && m.parts[p] <= lowest) {
                        those = m.parts[p] < lowest ? 1 : those + 1;
                        lowest = m.parts[p];
                    }
                }
                if (those > m.tin) {
                    return what == 0 ? lowest : m.tin;
                }
                for (int p = 0; p < count; p++) {
                    if (in[p] && m.parts[p] == lowest) {
                        m.parts[p]++;
                        m.tin--;
                    }
                }
            }
        }

        int were(int p, int v, int what) {
            List<Integer> sets = new ArrayList<>();
            for (int set = 0; set < 1 << count; set++) {
                Model m = withIn(set);
                if (m.in[p]) {
                    m.day(0);
                    if (m.parts[p] == v) {
                        sets.add(set);
                    }
                }
            }
            if (what == 0) {
                return sets.size();
            }
            if (sets.isEmpty()) {
                return TownLisp.NONE;
            }
            return what == 1 ? sets.get(0) : sets.stream().reduce(-1, (a, b) -> a & b);
        }

        int rounds(int k, int what) {
            boolean[] wins = new boolean[tin + 1];
            int least = TownLisp.NONE;
            for (int left = 1; left <= tin; left++) {
                least = TownLisp.NONE;
                for (int take = Math.min(k, left); take >= 1; take--) {
                    if (!wins[left - take]) {
                        wins[left] = true;
                        least = take;
                    }
                }
            }
            return what == 0 ? (wins[tin] ? 1 : 0) : least;
        }

        long worth(int p, int which) {
            if (!in[p]) {
                return TownLisp.LOST;
            }
            int all = 0;
            for (int q = 0; q < count; q++) {
                all += in[q] ? parts[q] : 0;
            }
            int[] found = new int[2];
            orders(p, all, 0, 0, false, found);
            return share(found[0], found[1], which);
        }

        /** Goes on with each one who has not come; found: orders in which it decides, all orders. */
        void orders(int p, int all, int came, int sum, boolean decides, int[] found) {
            boolean last = true;
            for (int q = 0; q < count; q++) {
                if (in[q] && (came & 1 << q) == 0) {
                    last = false;
                    boolean turns = 2 * sum <= all && 2 * (sum + parts[q]) > all;
                    orders(p, all, came | 1 << q, sum + parts[q], decides || turns && q == p, found);
                }
            }
            if (last) {
                found[0] += decides ? 1 : 0;
                found[1]++;
            }
        }

        long mean(int which) {
            int all = 0;
            for (int q = 0; q < count; q++) {
                all += in[q] ? parts[q] : 0;
            }
            return heads() == 0 ? TownLisp.LOST : share(all, heads(), which);
        }

        long odds(int p, int v, int which) {
            int good = 0;
            for (int set = 0; set < 1 << count; set++) {
                Model m = withIn(set);
                m.day(0);
                good += m.in[p] && m.says(p) >= v ? 1 : 0;
            }
            return share(good, 1 << count, which);
        }

        static long share(int upper, int lower, int which) {
            for (int by = lower; by > 1; by--) {
                if (upper % by == 0 && lower % by == 0) {
                    return which == 0 ? upper / by : lower / by;
                }
            }
            return which == 0 ? upper : lower;
        }

        boolean allSo(List<int[]> readings) {
            for (int[] r : readings) {
                if (says(kind[r[0]], r[1], thick[r[0]]) != r[2]) {
                    return false;
                }
            }
            return true;
        }

        int ears(List<int[]> readings, int p) {
            int set = 0;
            for (int t = 1; t <= 9; t++) {
                Model m = again();
                m.thick[p] = t;
                set |= m.allSo(readings) ? 1 << t : 0;
            }
            return set;
        }

        int kinds(List<int[]> readings, int p) {
            int set = 0;
            for (int k = 0; k <= 2; k++) {
                Model m = again();
                m.kind[p] = k;
                set |= m.allSo(readings) ? 1 << k : 0;
            }
            return set;
        }
    }
}
