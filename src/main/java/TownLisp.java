/**
 * A lisp bequeathed to a town: its PARTS are shared by those who are IN, some of them are in a TIN.
 * What each call answers is told by the numbered promises of the document; README.md says how to use it.
 */
public final class TownLisp {
    public static final int UNKNOWN = -1, OUTSIDE = -2, STATE = -3, FULL = -4, NONE = -9;
    public static final long LOST = Long.MIN_VALUE;

    private static final int NULL = 1, CAST = 2, INDEX = 3, SIZE = 4;
    private static final int GROWN = 0, SHY = 1, CHILD = 2;
    private static final int DAY = 0, LEAVES = 1, COMES = 2, GATHERING = 3, OPENS = 4;
    private static final int SHEETS = 4, MOST_CELLS = 60, MOST_READINGS = 8, MOST_PAIRS = 20;
    private static final int FEWEST_PEOPLE = 2, MOST_PEOPLE = 6, MOST_THICK = 9;
    private static final int MOST_ASKED = 300, MOST_SAID = 600, MOST_PACKED = 99, MOST_TAKEN = 9;
    /** A TEXT has so many codes ahead of its PEOPLE, and so many for each of them. */
    private static final int TEXT_HEAD = 3, TEXT_PERSON = 6;
    /** Above all the PARTS that a TEXT can tell (49 and 6 times 39), and no call makes new ones. */
    private static final int ABOVE_ALL_PARTS = 300;
    private static final int[] FACTORIALS = {1, 1, 2, 6, 24, 120, 720};

    private final Sheet[] sheets = new Sheet[SHEETS];
    private final Town now = new Town();
    private final Town then = new Town();
    private final Readings said = new Readings();
    private int daysGone;
    private int traced;
    private int latestFault;

    public TownLisp() {
        for (int k = 0; k < sheets.length; k++) {
            sheets[k] = new Sheet();
        }
    }

    // ---- 1 the town

    public int town(int sheet, int lane, int i, int n) {
        latestFault = 0;
        Sheet text = sheetAt(sheet);
        if (text == null) {
            return UNKNOWN;
        }
        if (!isLane(lane)) {
            return OUTSIDE;
        }
        int found = text.faultOf(lane, i, n);
        if (found != 0) {
            return faulty(found);
        }
        int firstFault = firstFaultOf(text, i, n);
        if (firstFault != NONE) {
            return -100 - firstFault;
        }
        now.become(text, i, n);
        said.count = 0;
        daysGone = 0;
        return now.count;
    }

    public int ofPerson(int p, int what) {
        if (!now.has(p)) {
            return UNKNOWN;
        }
        switch (what) {
            case 0:
                return now.kind[p];
            case 1:
                return now.parts[p];
            case 2:
                return now.thick[p];
            case 3:
                return now.isIn(p) ? 1 : 0;
            case 4:
                return now.saysNow(p);
            default:
                return OUTSIDE;
        }
    }

    public int tune(int p, int v) {
        if (!now.has(p)) {
            return UNKNOWN;
        }
        if (v < 1 || v > MOST_THICK) {
            return OUTSIDE;
        }
        int before = now.thick[p];
        now.thick[p] = v;
        return before;
    }

    public int heard(int what) {
        if (what < 0 || what > 2) {
            return OUTSIDE;
        }
        if (now.count == 0) {
            return STATE;
        }
        if (what == 0) {
            return now.allSay();
        }
        return what == 1 ? now.inside : now.partsOf(now.inside);
    }

    // ---- 2 days, comings, goings

    public int day(int p) {
        int answer = act(p, DAY);
        if (answer >= 0) {
            daysGone++;
        }
        return answer;
    }

    public int leave(int p) {
        return act(p, LEAVES);
    }

    public int come(int p) {
        return act(p, COMES);
    }

    public int gather(int p) {
        return act(p, GATHERING);
    }

    public int pack(int p, int n) {
        if (!now.has(p)) {
            return UNKNOWN;
        }
        if (n < 1 || n > MOST_PACKED) {
            return OUTSIDE;
        }
        if (now.parts[p] < n) {
            return STATE;
        }
        now.parts[p] -= n;
        now.tin += n;
        return now.tin;
    }

    public int open(int p) {
        return act(p, OPENS);
    }

    public int year(int sheet, int lane, int i, int n, int what) {
        latestFault = 0;
        Sheet pairs = sheetAt(sheet);
        if (pairs == null) {
            return UNKNOWN;
        }
        if (!isLane(lane) || n < 0 || n > MOST_PAIRS || !isAskedOfYear(what)) {
            return OUTSIDE;
        }
        int found = pairs.faultOf(lane, i, 2 * n);
        if (found != 0) {
            return faulty(found);
        }
        if (now.count == 0) {
            return STATE;
        }
        int refusal = refusalOfPairs(pairs, i, n);
        if (refusal != 0) {
            return refusal;
        }
        int firstWrong = firstWrongOf(pairs, i, n);
        if (what == 1) {
            return firstWrong;
        }
        return firstWrong == NONE ? behindYear(what) : -100 - firstWrong;
    }

    // ---- 3 who must be asked

    public int asked(int p, int v, int what) {
        if (!now.has(p)) {
            return UNKNOWN;
        }
        if (v < 0 || v > MOST_ASKED || what < 0 || what > 1) {
            return OUTSIDE;
        }
        int best = bestAsked(p, v);
        if (best == NONE || what == 0) {
            return best;
        }
        return now.parts[p] + now.partsOf(best);
    }

    public int gatherings(int p, int v) {
        if (!now.has(p)) {
            return UNKNOWN;
        }
        if (v < 0 || v > MOST_ASKED) {
            return OUTSIDE;
        }
        for (int times = 0; times <= ABOVE_ALL_PARTS; times++) {
            if (now.partsBehindGatherings(p, times) >= v) {
                return times;
            }
        }
        return NONE;
    }

    public int level(int what) {
        if (what < 0 || what > 1) {
            return OUTSIDE;
        }
        if (now.inside == 0) {
            return STATE;
        }
        int reached = 0;
        for (int next = 1; next <= ABOVE_ALL_PARTS && now.lackingUpTo(next) <= now.tin; next++) {
            reached = next;
        }
        return what == 0 ? reached : now.tin - now.lackingUpTo(reached);
    }

    public int were(int p, int v, int what) {
        if (!now.has(p)) {
            return UNKNOWN;
        }
        if (v < 0 || v > MOST_ASKED || what < 0 || what > 2) {
            return OUTSIDE;
        }
        int sets = 0;
        int least = NONE;
        int inAll = NONE;
        for (int set = 0; set < now.allSets(); set++) {
            if (isMember(set, p) && now.partsBehindDay(set, p) == v) {
                least = sets == 0 ? set : least;
                inAll = sets == 0 ? set : inAll & set;
                sets++;
            }
        }
        if (what == 0) {
            return sets;
        }
        return what == 1 ? least : inAll;
    }

    public int rounds(int k, int what) {
        if (k < 1 || k > MOST_TAKEN || what < 0 || what > 1) {
            return OUTSIDE;
        }
        if (now.count == 0) {
            return STATE;
        }
        // Whoever leaves a multiple of k + 1 can always fill up the other one's take to k + 1.
        int first = now.tin % (k + 1);
        if (what == 0) {
            return first == 0 ? 0 : 1;
        }
        return first == 0 ? NONE : first;
    }

    // ---- 4 what one is worth, what was said

    public long worth(int p, int which) {
        if (!now.has(p) || !isHalfOfShare(which) || !now.isIn(p)) {
            return LOST;
        }
        return shareOf(ordersDecidedBy(p), ordersOf(now.inside), which);
    }

    public long mean(int which) {
        if (!isHalfOfShare(which) || now.inside == 0) {
            return LOST;
        }
        return shareOf(now.partsOf(now.inside), now.heads(), which);
    }

    public int reading(int p, int parts, int v) {
        if (!now.has(p)) {
            return UNKNOWN;
        }
        if (parts < 0 || parts > MOST_ASKED || v < 0 || v > MOST_SAID) {
            return OUTSIDE;
        }
        if (said.count >= MOST_READINGS) {
            return FULL;
        }
        return said.take(p, parts, v);
    }

    public int back(int k) {
        if (k < 0 || k > said.count) {
            return OUTSIDE;
        }
        said.count -= k;
        return said.count;
    }

    public int ears(int p) {
        if (!now.has(p)) {
            return UNKNOWN;
        }
        int set = 0;
        for (int thick = 1; thick <= MOST_THICK; thick++) {
            if (said.areSo(now, p, now.kind[p], thick)) {
                set |= 1 << thick;
            }
        }
        return set;
    }

    public int kinds(int p) {
        if (!now.has(p)) {
            return UNKNOWN;
        }
        int set = 0;
        for (int kind = GROWN; kind <= CHILD; kind++) {
            if (said.areSo(now, p, kind, now.thick[p])) {
                set |= 1 << kind;
            }
        }
        return set;
    }

    public long odds(int p, int v, int which) {
        if (!now.has(p) || v < 0 || v > MOST_SAID || !isHalfOfShare(which)) {
            return LOST;
        }
        int sets = 0;
        for (int set = 0; set < now.allSets(); set++) {
            if (isMember(set, p) && says(now.kind[p], now.partsBehindDay(set, p), now.thick[p]) >= v) {
                sets++;
            }
        }
        return shareOf(sets, now.allSets(), which);
    }

    // ---- 5 sheets, parts

    public int sheet(int k, int lane, int n) {
        latestFault = 0;
        Sheet row = sheetAt(k);
        if (row == null) {
            return UNKNOWN;
        }
        if (!isLane(lane) || n > MOST_CELLS) {
            return OUTSIDE;
        }
        if (n < 0) {
            return faulty(SIZE);
        }
        row.renew(lane, n);
        return 1;
    }

    public int lose(int k) {
        Sheet row = sheetAt(k);
        if (row == null) {
            return UNKNOWN;
        }
        boolean had = row.held;
        row.held = false;
        return had ? 1 : 0;
    }

    public int put(int k, int i, int v) {
        latestFault = 0;
        Sheet row = sheetAt(k);
        if (row == null) {
            return UNKNOWN;
        }
        if (!row.held) {
            return faulty(NULL);
        }
        if (!row.spans(i, 1)) {
            return faulty(INDEX);
        }
        row.cells[i] = row.cut(v);
        return 1;
    }

    public long cell(int k, int i, int lane) {
        latestFault = 0;
        Sheet row = sheetAt(k);
        if (row == null || !isLane(lane)) {
            return LOST;
        }
        latestFault = row.faultOf(lane, i, 1);
        return latestFault == 0 ? row.at(i) : LOST;
    }

    public int copy(int k, int i, int other, int j, int n) {
        latestFault = 0;
        Sheet from = sheetAt(k);
        Sheet to = sheetAt(other);
        if (from == null || to == null) {
            return UNKNOWN;
        }
        if (!from.held || !to.held) {
            return faulty(NULL);
        }
        if (from.lane != to.lane) {
            return faulty(CAST);
        }
        if (!from.spans(i, n) || !to.spans(j, n)) {
            return faulty(INDEX);
        }
        System.arraycopy(from.cells, i, to.cells, j, n);
        return n;
    }

    public int tell(int p) {
        if (!now.has(p)) {
            return UNKNOWN;
        }
        switch (now.kind[p]) {
            case GROWN:
                return grownTells(p);
            case SHY:
                return shyTells(p);
            default:
                return childTells(p);
        }
    }

    public int call(int p) {
        if (!now.has(p)) {
            return UNKNOWN;
        }
        return now.kind[p] == CHILD ? childIsCalled() : lentIsCalled(p);
    }

    public int as(int p, int kind) {
        latestFault = 0;
        if (!now.has(p)) {
            return UNKNOWN;
        }
        if (kind < GROWN || kind > CHILD) {
            return OUTSIDE;
        }
        // Each kind is also all those with a lower number.
        return now.kind[p] < kind ? faulty(CAST) : 1;
    }

    public int trace() {
        return traced;
    }

    public int fault() {
        return latestFault;
    }

    public int many(int what) {
        switch (what) {
            case 0:
                return now.count;
            case 1:
                return now.tin;
            case 2:
                return now.heads();
            case 3:
                return daysGone;
            case 4:
                return said.count;
            default:
                return OUTSIDE;
        }
    }

    // ---- what several calls use

    private Sheet sheetAt(int k) {
        return k >= 0 && k < sheets.length ? sheets[k] : null;
    }

    private int faulty(int found) {
        latestFault = found;
        return -10 - found;
    }

    private static boolean isLane(int lane) {
        return lane >= 0 && lane <= 2;
    }

    private static boolean isHalfOfShare(int which) {
        return which == 0 || which == 1;
    }

    private static boolean isMember(int set, int p) {
        return ((set >> p) & 1) == 1;
    }

    private static int says(int kind, int parts, int thick) {
        int grown = thick > 0 ? parts / thick : 0;
        switch (kind) {
            case SHY:
                return Math.max(grown - 1, 0);
            case CHILD:
                return 2 * grown;
            default:
                return grown;
        }
    }

    private static long shareOf(int upper, int lower, int which) {
        int common = lower;
        int rest = upper;
        // Numbers of up to three digits need fewer turns by far.
        for (int turn = 0; turn < 64 && rest != 0; turn++) {
            int smaller = common % rest;
            common = rest;
            rest = smaller;
        }
        if (common < 1) {
            return LOST;
        }
        return (which == 0 ? upper : lower) / common;
    }

    // ---- the TEXT of a TOWN

    private static int firstFaultOf(Sheet text, int i, int n) {
        for (int place = 0; place < n; place++) {
            if (!goesOn(place, text.at(i + place))) {
                return place;
            }
        }
        boolean whole = n >= TEXT_HEAD + FEWEST_PEOPLE * TEXT_PERSON && (n - TEXT_HEAD) % TEXT_PERSON == 0;
        return whole ? NONE : n;
    }

    private static boolean goesOn(int place, int code) {
        switch (place) {
            case 0:
                return code == 't';
            case 1:
                return isBetween(code, '0', '4');
            case 2:
                return isBetween(code, '0', '9');
            default:
                return place < TEXT_HEAD + MOST_PEOPLE * TEXT_PERSON
                        && personGoesOn((place - TEXT_HEAD) % TEXT_PERSON, code);
        }
    }

    private static boolean personGoesOn(int place, int code) {
        switch (place) {
            case 0:
                return code == ';';
            case 1:
                return code == 'o' || code == 's' || code == 'c';
            case 2:
                return isBetween(code, '0', '3');
            case 3:
                return isBetween(code, '0', '9');
            case 4:
                return isBetween(code, '1', '9');
            default:
                return isBetween(code, '0', '1');
        }
    }

    private static boolean isBetween(int code, int first, int last) {
        return code >= first && code <= last;
    }

    // ---- acts and YEARS

    private int act(int p, int what) {
        return now.has(p) ? now.acts(p, what) : UNKNOWN;
    }

    private static boolean isAskedOfYear(int what) {
        return (what >= 0 && what <= 3) || (what >= 10 && what < 10 + MOST_PEOPLE);
    }

    private int refusalOfPairs(Sheet pairs, int i, int n) {
        for (int pair = 0; pair < n; pair++) {
            if (!now.has(pairs.at(i + 2 * pair))) {
                return UNKNOWN;
            }
            if (!isBetween(pairs.at(i + 2 * pair + 1), DAY, OPENS)) {
                return OUTSIDE;
            }
        }
        return 0;
    }

    private int firstWrongOf(Sheet pairs, int i, int n) {
        then.becomeLike(now);
        for (int pair = 0; pair < n; pair++) {
            if (then.acts(pairs.at(i + 2 * pair), pairs.at(i + 2 * pair + 1)) == STATE) {
                return pair;
            }
        }
        return NONE;
    }

    private int behindYear(int what) {
        switch (what) {
            case 0:
                return then.tin;
            case 2:
                return then.inside;
            case 3:
                return then.allSay();
            default:
                return then.has(what - 10) ? then.parts[what - 10] : NONE;
        }
    }

    // ---- ASKED, WORTH

    private int bestAsked(int p, int v) {
        int others = now.inside & ~(1 << p);
        int best = NONE;
        int fewestAsked = 0;
        int fewestParts = 0;
        for (int set = 0; set < now.allSets(); set++) {
            int size = Integer.bitCount(set);
            int parts = now.parts[p] + now.partsOf(set);
            boolean better = best == NONE || size < fewestAsked || (size == fewestAsked && parts < fewestParts);
            if ((set & ~others) == 0 && parts >= v && better) {
                best = set;
                fewestAsked = size;
                fewestParts = parts;
            }
        }
        return best;
    }

    private int ordersDecidedBy(int p) {
        int others = now.inside & ~(1 << p);
        int all = now.partsOf(now.inside);
        int orders = 0;
        for (int ahead = 0; ahead < now.allSets(); ahead++) {
            int came = now.partsOf(ahead);
            if ((ahead & ~others) == 0 && 2 * came <= all && 2 * (came + now.parts[p]) > all) {
                int behind = others & ~ahead;
                orders += ordersOf(ahead) * ordersOf(behind);
            }
        }
        return orders;
    }

    private static int ordersOf(int set) {
        int size = Integer.bitCount(set);
        return size < FACTORIALS.length ? FACTORIALS[size] : 0;
    }

    // ---- TELLING, by bodies that leave their number

    private void begin(int body) {
        traced = 31 * traced + body;
    }

    private int grownTells(int p) {
        begin(1);
        return now.thick[p];
    }

    private int shyTells(int p) {
        begin(2);
        return grownTells(p) + 100;
    }

    private int childTells(int p) {
        begin(3);
        int asShy = shyTells(p);
        return asShy + grownTells(p);
    }

    private int lentIsCalled(int p) {
        begin(4);
        return p;
    }

    private int childIsCalled() {
        begin(5);
        return 30;
    }

    /** A row of cells that is made once and used again for each row that the sheet gets. */
    private static final class Sheet {
        final int[] cells = new int[MOST_CELLS];
        int lane;
        int length;
        boolean held;

        void renew(int newLane, int newLength) {
            lane = newLane;
            length = Math.max(0, Math.min(newLength, cells.length));
            held = true;
            for (int i = 0; i < cells.length; i++) {
                cells[i] = 0;
            }
        }

        int at(int i) {
            return i >= 0 && i < cells.length ? cells[i] : 0;
        }

        /** Without a sum of both, which could wrap. */
        boolean spans(int i, int n) {
            return i >= 0 && n >= 0 && i <= length && n <= length - i;
        }

        int faultOf(int wantedLane, int i, int n) {
            if (!held) {
                return NULL;
            }
            if (lane != wantedLane) {
                return CAST;
            }
            if (n < 0) {
                return SIZE;
            }
            return spans(i, n) ? 0 : INDEX;
        }

        int cut(int v) {
            switch (lane) {
                case 0:
                    return (byte) v;
                case 1:
                    return (short) v;
                default:
                    return v;
            }
        }
    }

    /** PEOPLE and the TIN: as they are, or as they would be behind a YEAR that is only told. */
    private static final class Town {
        final int[] kind = new int[MOST_PEOPLE];
        final int[] parts = new int[MOST_PEOPLE];
        final int[] thick = new int[MOST_PEOPLE];
        int count;
        int inside;
        int tin;

        void become(Sheet text, int i, int n) {
            count = Math.max(0, Math.min((n - TEXT_HEAD) / TEXT_PERSON, MOST_PEOPLE));
            tin = twoDigits(text, i + 1);
            inside = 0;
            for (int p = 0; p < count; p++) {
                int start = i + TEXT_HEAD + p * TEXT_PERSON;
                kind[p] = kindOf(text.at(start + 1));
                parts[p] = twoDigits(text, start + 2);
                thick[p] = text.at(start + 4) - '0';
                inside |= (text.at(start + 5) - '0') << p;
            }
        }

        private static int kindOf(int letter) {
            if (letter == 'o') {
                return GROWN;
            }
            return letter == 's' ? SHY : CHILD;
        }

        private static int twoDigits(Sheet text, int i) {
            return 10 * (text.at(i) - '0') + text.at(i + 1) - '0';
        }

        void becomeLike(Town other) {
            count = other.count;
            inside = other.inside;
            tin = other.tin;
            for (int p = 0; p < count; p++) {
                kind[p] = other.kind[p];
                parts[p] = other.parts[p];
                thick[p] = other.thick[p];
            }
        }

        boolean has(int p) {
            return p >= 0 && p < count;
        }

        boolean isIn(int p) {
            return isMember(inside, p);
        }

        int heads() {
            return Integer.bitCount(inside);
        }

        int allSets() {
            return 1 << count;
        }

        int partsOf(int set) {
            int sum = 0;
            for (int p = 0; p < count; p++) {
                sum += isMember(set, p) ? parts[p] : 0;
            }
            return sum;
        }

        int saysNow(int p) {
            return says(kind[p], parts[p], thick[p]);
        }

        int allSay() {
            int sum = 0;
            for (int p = 0; p < count; p++) {
                sum += isIn(p) ? saysNow(p) : 0;
            }
            return sum;
        }

        /** What the act's own call answers; STATE, and nothing is changed, if it can't be. */
        int acts(int p, int what) {
            boolean can = what == DAY ? inside != 0 : isIn(p) == (what != COMES);
            if (!can || (what == OPENS && tin == 0)) {
                return STATE;
            }
            switch (what) {
                case DAY:
                    return shareFrom(p);
                case LEAVES:
                    return goOut(p);
                case COMES:
                    inside |= 1 << p;
                    return heads();
                case GATHERING:
                    return giveTo(p);
                default:
                    return emptyTinFor(p);
            }
        }

        private int shareFrom(int first) {
            int all = partsOf(inside);
            int heads = heads();
            for (int p = 0; p < count; p++) {
                parts[p] = isIn(p) ? 0 : parts[p];
            }
            handOut(all, first);
            return heads > 0 ? all / heads : 0;
        }

        private int goOut(int p) {
            int had = parts[p];
            parts[p] = 0;
            inside &= ~(1 << p);
            handOut(had, 0);
            return had;
        }

        /** One by one, round and round, is to each as many, and what is left over to the first ones. */
        private void handOut(int amount, int first) {
            int heads = heads();
            if (heads == 0) {
                tin += amount;
                return;
            }
            int left = amount % heads;
            for (int step = 0; step < count; step++) {
                int p = (first + step) % count;
                if (isIn(p)) {
                    parts[p] += amount / heads + (left > 0 ? 1 : 0);
                    left--;
                }
            }
        }

        private int giveTo(int goal) {
            int gave = 0;
            for (int p = 0; p < count; p++) {
                if (p != goal && isIn(p) && parts[p] > 0) {
                    parts[p]--;
                    gave++;
                }
            }
            parts[goal] += gave;
            return gave;
        }

        private int emptyTinFor(int p) {
            int was = tin;
            parts[p] += was;
            tin = 0;
            return was;
        }

        /** Each other one has given once a time, as long as there was any to give. */
        int partsBehindGatherings(int goal, int times) {
            int sum = parts[goal];
            for (int p = 0; p < count; p++) {
                sum += p != goal && isIn(p) ? Math.min(parts[p], times) : 0;
            }
            return sum;
        }

        int lackingUpTo(int height) {
            int sum = 0;
            for (int p = 0; p < count; p++) {
                sum += isIn(p) ? Math.max(0, height - parts[p]) : 0;
            }
            return sum;
        }

        /** Of one of a set that is IN in place of those who are, if the DAY is from PERSON 0 on. */
        int partsBehindDay(int set, int p) {
            int heads = Integer.bitCount(set);
            if (heads == 0) {
                return parts[p];
            }
            int all = partsOf(set);
            int aheadOfIt = Integer.bitCount(set & ((1 << p) - 1));
            return all / heads + (aheadOfIt < all % heads ? 1 : 0);
        }
    }

    /** What was said: the first count places of each row. */
    private static final class Readings {
        final int[] person = new int[MOST_READINGS];
        final int[] parts = new int[MOST_READINGS];
        final int[] amount = new int[MOST_READINGS];
        int count;

        int take(int p, int withParts, int v) {
            person[count] = p;
            parts[count] = withParts;
            amount[count] = v;
            return count++;
        }

        /** Whether all are so if one PERSON were of that kind, that THICK, and all others as they are. */
        boolean areSo(Town town, int p, int kind, int thick) {
            for (int r = 0; r < count; r++) {
                int q = person[r];
                int would = q == p ? says(kind, parts[r], thick) : says(town.kind[q], parts[r], town.thick[q]);
                if (would != amount[r]) {
                    return false;
                }
            }
            return true;
        }
    }
}
