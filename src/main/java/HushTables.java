import java.util.Arrays;

/** People and ties, cuts, a tale that goes round, and whom to part from whom; the document tells the rest. */
public final class HushTables {
    public static final int BAD = -1, FULL = -2, NONE = -3, STATE = -4;

    private static final int NOTHING_THERE = -11, OUTSIDE = -12, OF_ANOTHER_SORT = -13, SIZE_BELOW_0 = -14,
            PARTED_BY_0 = -15;
    private static final int UNTOLD = -9, ANOTHER_END = 222, FAULT_BASE = -100;
    private static final int MOST_PEOPLE = 10, MOST_TIES = 14, MOST_CUTS = 8, DAYS_IN_ALL = 100, MOST_RUN = 20;
    private static final int MOST_UNSURE = 9, MOST_TO_PART = 7, MOST_TO_GUARD = 8, SURE_ODDS = 4;

    /** A TIE weighs more than all WORTH together, so that one number orders by TIES and then by WORTH. */
    private static final int ONE_TIE = 2048;

    private final Works now = new Works();
    private final Works draft = new Works();
    private final Works kept = new Works();
    private boolean anyKept = false;
    private final Tape tape = new Tape();
    private final Net net = new Net();
    private final Tale tale = new Tale();
    private final Parting parting = new Parting();
    private final Days calendar = new Days();
    private final Rows rows = new Rows();
    private final Host host = new Host();
    private final Acts acts = new Acts();

    public HushTables() {
    }

    // ---- works

    public int feed(long eight, int n) {
        if (n < 1 || n > 8) {
            return BAD;
        }
        return tape.take(eight, n) ? tape.length : FULL;
    }

    public int works() {
        boolean right = tape.isReadInto(draft);
        tape.length = 0;
        if (!right) {
            return FAULT_BASE - tape.start;
        }
        draft.z = now.z;
        now.become(draft);
        rows.count = 0;
        return now.tieCount;
    }

    public int people(int n) {
        if (n < 1 || n > MOST_PEOPLE) {
            return BAD;
        }
        now.startWith(n);
        rows.count = 0;
        return n;
    }

    public int tie(int a, int b, int worth, int odds, boolean must) {
        if (!isPair(a, b) || worth < 0 || worth > 99 || odds < 1 || odds > SURE_ODDS) {
            return BAD;
        }
        if (now.tieCount >= MOST_TIES) {
            return FULL;
        }
        if (now.tieBetween(a, b) >= 0) {
            return STATE;
        }
        int tie = now.addTie(a, b);
        now.worth[tie] = worth;
        now.odds[tie] = odds;
        now.must[tie] = must;
        return tie;
    }

    public int tieOf(int tie, int what) {
        if (!now.hasTie(tie)) {
            return BAD;
        }
        switch (what) {
            case 0: return now.low[tie];
            case 1: return now.high[tie];
            case 2: return now.worth[tie];
            case 3: return now.odds[tie];
            case 4: return now.must[tie] ? 1 : 0;
            default: return BAD;
        }
    }

    public int first(int p, int weight) {
        if (!now.hasPerson(p) || weight < 0 || weight > 9) {
            return BAD;
        }
        int before = now.weight[p];
        now.weight[p] = weight;
        return before;
    }

    // ---- cuts

    public int cut(int kind, int a, int b) {
        if (kind < 1 || kind > 6 || b < 0 || b > 99) {
            return BAD;
        }
        boolean ofTie = kind == Works.TIE || kind == Works.LATE;
        if (ofTie ? !now.hasTie(a) : !now.hasSet(a)) {
            return BAD;
        }
        return now.cutCount >= MOST_CUTS ? FULL : now.addCut(kind, a, b);
    }

    public int cutOf(int cut, int what) {
        if (!now.hasCut(cut)) {
            return BAD;
        }
        switch (what) {
            case 0: return now.cutKind[cut];
            case 1: return now.cutA[cut];
            case 2: return now.cutB[cut];
            default: return BAD;
        }
    }

    public int uncut() {
        if (now.cutCount == 0) {
            return NONE;
        }
        now.cutCount--;
        return now.cutCount;
    }

    public int open(int tie, int day) {
        if (!now.hasTie(tie) || day < 0 || day >= DAYS_IN_ALL) {
            return BAD;
        }
        return now.isOpen(tie, day) ? 1 : 0;
    }

    public int joined(int p) {
        if (!now.hasPerson(p)) {
            return BAD;
        }
        layOpenTies();
        return net.flood(1 << p, now.everybody());
    }

    public int sets(int what) {
        if (!isEither(what)) {
            return BAD;
        }
        layOpenTies();
        return what == 0 ? net.howManySets(now.everybody()) : net.greatestSet(now.everybody());
    }

    // ---- the tale

    public int chance(int p, int part) {
        if (!now.hasPerson(p) || !isEither(part)) {
            return BAD;
        }
        int refusal = taleRefusal();
        if (refusal != 0) {
            return refusal;
        }
        tale.gather(now);
        return (int) partOf(tale.oddsToKnow(now, net, p), tale.allOdds(now), part);
    }

    public long reach(int part) {
        if (!isEither(part)) {
            return BAD;
        }
        int refusal = taleRefusal();
        if (refusal != 0) {
            return refusal;
        }
        tale.gather(now);
        return partOf(tale.meanKnowing(now, net), tale.allOdds(now), part);
    }

    public int seen(int p, int v) {
        if (!now.hasPerson(p) || v < -1 || v > 1) {
            return BAD;
        }
        int before = now.shown[p];
        now.shown[p] = v;
        return before < 0 ? UNTOLD : before;
    }

    public int who(int p, int part) {
        if (!now.hasPerson(p) || !isEither(part)) {
            return BAD;
        }
        if (Integer.bitCount(now.unsureTies()) > MOST_UNSURE) {
            return STATE;
        }
        tale.gather(now);
        long all = tale.oddsShown(now, net, now.everybody());
        if (all == 0) {
            return NONE;
        }
        return (int) partOf(tale.oddsShown(now, net, 1 << p), all, part);
    }

    // ---- partings

    public int fewest(int a, int b, int what) {
        if (!isPair(a, b) || !isEither(what)) {
            return BAD;
        }
        int ties = now.openTies(0);
        int least = NONE;
        for (int side = 0; side <= now.everybody(); side++) {
            if ((side >> a & 1) == 0 || (side >> b & 1) != 0) {
                continue;
            }
            parting.halve(side);
            int cost = parting.cost(now, ties);
            int size = what == 0 ? cost / ONE_TIE : cost % ONE_TIE;
            if (cost >= 0 && (least < 0 || size < least)) {
                least = size;
            }
        }
        return least;
    }

    public int between(int a, int b, int what) {
        if (!isPair(a, b) || !isEither(what)) {
            return BAD;
        }
        layOpenTies();
        if ((net.near[a] >> b & 1) != 0) {
            return NONE;
        }
        int all = now.everybody();
        int two = 1 << a | 1 << b;
        int least = all & ~two;
        for (int set = 0; set <= all; set++) {
            boolean fewer = (set & two) == 0 && Integer.bitCount(set) < Integer.bitCount(least);
            if (fewer && (net.flood(1 << a, all & ~set) >> b & 1) == 0) {
                least = set;
            }
        }
        return countOrSet(least, what);
    }

    public int small(int m, int what) {
        if (m < 1 || m > MOST_PEOPLE || !isEither(what)) {
            return BAD;
        }
        if (now.crowd > MOST_TO_PART) {
            return STATE;
        }
        int ties = now.openTies(0);
        int least = NONE;
        boolean more = parting.begin(now.crowd);
        for (int i = 0; i < Parting.MOST && more; i++) {
            int cost = parting.holds(m) ? parting.cost(now, ties) : NONE;
            if (cost >= 0 && (least < 0 || cost < least)) {
                least = cost;
            }
            more = parting.advance();
        }
        if (least < 0) {
            return NONE;
        }
        return what == 0 ? least / ONE_TIE : least % ONE_TIE;
    }

    public int sit(int m, int what) {
        if (m < 1 || m > MOST_PEOPLE || !isEither(what)) {
            return BAD;
        }
        if (now.crowd > MOST_TO_PART) {
            return STATE;
        }
        int most = -1;
        int howMany = 0;
        boolean more = parting.begin(now.crowd);
        for (int i = 0; i < Parting.MOST && more; i++) {
            int worth = parting.holds(m) ? parting.worthWithin(now) : -1;
            if (worth > most) {
                most = worth;
                howMany = 0;
            }
            if (worth == most) {
                howMany++;
            }
            more = parting.advance();
        }
        return what == 0 ? most : howMany;
    }

    // ---- days

    public int early(int from, int to) {
        if (!now.hasPerson(from) || !now.hasPerson(to)) {
            return BAD;
        }
        calendar.follow(now, from);
        return calendar.behind[to];
    }

    public int could(int from, int days) {
        if (!now.hasPerson(from) || days < 0 || days > DAYS_IN_ALL) {
            return BAD;
        }
        calendar.follow(now, from);
        return calendar.knowingBehind(days);
    }

    public int seed(int v) {
        int before = now.z;
        now.z = v;
        return before;
    }

    public int run(int from, int days) {
        if (!now.hasPerson(from) || days < 0 || days > MOST_RUN) {
            return BAD;
        }
        int knows = 1 << from;
        for (int day = 0; day < days; day++) {
            knows = calendar.chanceDay(now, knows, day);
        }
        return knows;
    }

    public int guards(int from, int what) {
        if (!now.hasPerson(from) || !isEither(what)) {
            return BAD;
        }
        if (now.crowd > MOST_TO_GUARD) {
            return STATE;
        }
        layOpenTies();
        int knows = 1 << from;
        if (!net.isThreatened(knows, 0)) {
            return what == 0 ? 1 : UNTOLD;
        }
        int least = MOST_PEOPLE + 1;
        int whom = UNTOLD;
        for (int p = 0; p < now.crowd; p++) {
            int end = p == from ? least : knowingWithout(p, knows, 0, 0);
            if (end < least) {
                least = end;
                whom = p;
            }
        }
        return what == 0 ? least : whom;
    }

    public int prove(int from, int to) {
        if (!now.hasPerson(from) || !now.hasPerson(to)) {
            return BAD;
        }
        calendar.follow(now, from);
        if (calendar.behind[to] < 0) {
            return NONE;
        }
        rows.tellHow(now, calendar, to);
        return rows.count;
    }

    public int row(int i, int what) {
        return rows.has(i, what) ? rows.cell[i][what] : UNTOLD;
    }

    public int alterRow(int i, int what, int v) {
        if (!rows.has(i, what)) {
            return UNTOLD;
        }
        int before = rows.cell[i][what];
        rows.cell[i][what] = v;
        return before;
    }

    public int judge(int from, int to) {
        if (!now.hasPerson(from) || !now.hasPerson(to)) {
            return BAD;
        }
        return rows.verdict(now, from, to);
    }

    // ---- whom

    public int chair(int what) {
        if (!isEither(what)) {
            return BAD;
        }
        layOpenTies();
        int least = MOST_PEOPLE + 1;
        int whom = 0;
        for (int p = 0; p < now.crowd; p++) {
            int greatest = net.greatestSet(now.everybody() & ~(1 << p));
            if (greatest < least) {
                least = greatest;
                whom = p;
            }
        }
        return what == 0 ? whom : least;
    }

    public int meet(int set, int what) {
        if (set == 0 || !now.hasSet(set) || !isEither(what)) {
            return BAD;
        }
        layOpenTies();
        int least = 0;
        for (int some = set; some <= now.everybody(); some++) {
            boolean fewer = least == 0 || Integer.bitCount(some) < Integer.bitCount(least);
            if (fewer && (some & set) == set && net.flood(some & -some, some) == some) {
                least = some;
            }
        }
        return least == 0 ? NONE : countOrSet(least, what);
    }

    public int tell(int days, int what) {
        if (days < 0 || days > DAYS_IN_ALL || !isEither(what)) {
            return BAD;
        }
        int all = now.everybody();
        calendar.fillReached(now, days);
        int least = all;
        for (int set = 0; set <= all; set++) {
            boolean fewer = Integer.bitCount(set) < Integer.bitCount(least);
            if (fewer && calendar.reachedBy(set) == all) {
                least = set;
            }
        }
        return countOrSet(least, what);
    }

    public int best(int sheet, int what) {
        if (!Host.hasPlace(sheet) || !isEither(what)) {
            return BAD;
        }
        int refusal = host.refusalOf(sheet, Host.INTS);
        if (refusal != 0) {
            return refusal;
        }
        int open = now.openTies(0);
        int place = NONE;
        int least = MOST_PEOPLE + 1;
        for (int i = 0; i < host.size[sheet]; i++) {
            net.lay(now, open & ~host.items[sheet][i]);
            int greatest = net.greatestSet(now.everybody());
            if (greatest < least) {
                least = greatest;
                place = i;
            }
        }
        return what == 0 || place < 0 ? place : least;
    }

    // ---- the host

    public int sheet(int sheet, int sort, int n) {
        if (!Host.hasPlace(sheet) || sort < Host.MISSING || sort > Host.LONGS) {
            return BAD;
        }
        if (sort != Host.MISSING && n > Host.MOST_ITEMS) {
            return BAD;
        }
        if (sort != Host.MISSING && n < 0) {
            return SIZE_BELOW_0;
        }
        host.renew(sheet, sort, n);
        return 1;
    }

    public int put(int sheet, int i, int v) {
        if (!Host.hasPlace(sheet)) {
            return BAD;
        }
        if (host.sort[sheet] == Host.MISSING) {
            return NOTHING_THERE;
        }
        if (i < 0 || i >= host.size[sheet]) {
            return OUTSIDE;
        }
        host.items[sheet][i] = Host.narrowed(v, host.sort[sheet]);
        return 1;
    }

    public int item(int sheet, int sort, int i) {
        if (!Host.hasPlace(sheet) || sort < 0 || sort > Host.LONGS) {
            return BAD;
        }
        int refusal = host.refusalOf(sheet, sort);
        if (refusal != 0) {
            return refusal;
        }
        if (i < 0 || i >= host.size[sheet]) {
            return OUTSIDE;
        }
        return host.items[sheet][i];
    }

    public int shelf(int shelf, int what, int n) {
        if (!Host.hasPlace(shelf) || what < 0 || what > 2) {
            return BAD;
        }
        if (what == 0 && !now.hasCut(n) || what == 1 && !Host.hasPlace(n)) {
            return BAD;
        }
        if (what == 0) {
            host.holdCut(shelf, n);
        } else if (what == 1) {
            host.holdRow(shelf, n);
        } else {
            host.holdNothing(shelf);
        }
        return 1;
    }

    public int taken(int shelf, int as) {
        boolean asRow = as >= 10 && as <= 13;
        boolean asKind = as >= 0 && as <= 6;
        if (!Host.hasPlace(shelf) || !asRow && !asKind) {
            return BAD;
        }
        if (host.isRow(shelf)) {
            return asRow && host.heldSort[shelf] == as - 10 ? host.heldNumber[shelf] : OF_ANOTHER_SORT;
        }
        int cut = host.cutOn(shelf);
        if (!now.hasCut(cut)) {
            return NOTHING_THERE;
        }
        return asKind && Works.isUnder(now.cutKind[cut], as) ? cut : OF_ANOTHER_SORT;
    }

    public int act(int shelf, int act, int x) {
        acts.forget();
        if (!Host.hasPlace(shelf) || act < 0 || act > 3) {
            return 0;
        }
        int cut = host.cutOn(shelf);
        if (!now.hasCut(cut)) {
            return 0;
        }
        return acts.perform(now, cut, act, x);
    }

    public int trace(int i) {
        return i >= 0 && i < acts.count ? acts.bodies[i] : NONE;
    }

    public int many(int what) {
        switch (what) {
            case 0: return now.crowd;
            case 1: return now.tieCount;
            case 2: return now.cutCount;
            case 3: return now.howManyShow();
            case 4: return rows.count;
            case 5: return tape.length;
            case 6: return acts.count;
            case 7: return Integer.bitCount(now.unsureTies());
            default: return BAD;
        }
    }

    // ---- kept

    public int keep() {
        kept.become(now);
        anyKept = true;
        return 1;
    }

    public int back() {
        if (!anyKept) {
            return NONE;
        }
        now.become(kept);
        return now.tieCount;
    }

    // ---- what several calls share

    private static boolean isEither(int what) {
        return what == 0 || what == 1;
    }

    private boolean isPair(int a, int b) {
        return now.hasPerson(a) && now.hasPerson(b) && a != b;
    }

    private void layOpenTies() {
        net.lay(now, now.openTies(0));
    }

    private static int countOrSet(int set, int what) {
        return what == 0 ? Integer.bitCount(set) : set;
    }

    private int taleRefusal() {
        if (now.weightOf(now.everybody()) == 0) {
            return NONE;
        }
        return Integer.bitCount(now.unsureTies()) > MOST_UNSURE ? STATE : 0;
    }

    private static long partOf(long above, long below, int part) {
        long a = above;
        long b = below;
        // Euclid's way halves the numbers in two steps, so that 200 are more than any two longs need
        for (int i = 0; i < 200 && b != 0; i++) {
            long rest = a % b;
            a = b;
            b = rest;
        }
        if (a == 0) {
            return part;
        }
        return (part == 0 ? above : below) / a;
    }

    private int leastKnowing(int knows, int away, int depth) {
        if (depth > MOST_PEOPLE || !net.isThreatened(knows, away)) {
            return Integer.bitCount(knows);
        }
        int least = MOST_PEOPLE + 1;
        for (int p = 0; p < now.crowd; p++) {
            if (((knows | away) >> p & 1) == 0) {
                least = Math.min(least, knowingWithout(p, knows, away, depth));
            }
        }
        return least;
    }

    private int knowingWithout(int p, int knows, int away, int depth) {
        int gone = away | 1 << p;
        return leastKnowing(knows | net.around(knows) & ~gone, gone, depth + 1);
    }

    /** PEOPLE, TIES, CUTS, what is SEEN, and z: all that keep() keeps. */
    private static final class Works {
        static final int CUT = 0, TIE = 1, TABLE = 2, SHIFT = 3, LATE = 4, SEAT = 5, TOLD = 6;
        private static final int[] KIND_ABOVE = {-1, 0, 0, 2, 1, 3, 0};

        int crowd = 1;
        final int[] weight = new int[MOST_PEOPLE];
        final int[] shown = new int[MOST_PEOPLE];
        int tieCount = 0;
        final int[] low = new int[MOST_TIES];
        final int[] high = new int[MOST_TIES];
        final int[] worth = new int[MOST_TIES];
        final int[] odds = new int[MOST_TIES];
        final boolean[] must = new boolean[MOST_TIES];
        int cutCount = 0;
        final int[] cutKind = new int[MOST_CUTS];
        final int[] cutA = new int[MOST_CUTS];
        final int[] cutB = new int[MOST_CUTS];
        int z = 1;

        Works() {
            Arrays.fill(weight, 1);
            Arrays.fill(shown, -1);
        }

        void startWith(int people) {
            crowd = people;
            tieCount = 0;
            cutCount = 0;
            Arrays.fill(weight, 1);
            Arrays.fill(shown, -1);
        }

        void become(Works other) {
            crowd = other.crowd;
            tieCount = other.tieCount;
            cutCount = other.cutCount;
            z = other.z;
            System.arraycopy(other.weight, 0, weight, 0, MOST_PEOPLE);
            System.arraycopy(other.shown, 0, shown, 0, MOST_PEOPLE);
            System.arraycopy(other.low, 0, low, 0, MOST_TIES);
            System.arraycopy(other.high, 0, high, 0, MOST_TIES);
            System.arraycopy(other.worth, 0, worth, 0, MOST_TIES);
            System.arraycopy(other.odds, 0, odds, 0, MOST_TIES);
            System.arraycopy(other.must, 0, must, 0, MOST_TIES);
            System.arraycopy(other.cutKind, 0, cutKind, 0, MOST_CUTS);
            System.arraycopy(other.cutA, 0, cutA, 0, MOST_CUTS);
            System.arraycopy(other.cutB, 0, cutB, 0, MOST_CUTS);
        }

        boolean hasPerson(int p) {
            return p >= 0 && p < crowd;
        }

        boolean hasTie(int tie) {
            return tie >= 0 && tie < tieCount;
        }

        boolean hasCut(int cut) {
            return cut >= 0 && cut < cutCount;
        }

        boolean hasSet(int set) {
            return set >= 0 && set <= everybody();
        }

        int everybody() {
            return (1 << crowd) - 1;
        }

        int weightOf(int set) {
            int sum = 0;
            for (int p = 0; p < crowd; p++) {
                if ((set >> p & 1) != 0) {
                    sum += weight[p];
                }
            }
            return sum;
        }

        int howManyShow() {
            int count = 0;
            for (int p = 0; p < crowd; p++) {
                if (shown[p] >= 0) {
                    count++;
                }
            }
            return count;
        }

        /** Whether all that is SEEN is so, when just these know. */
        boolean isAsShown(int knows) {
            for (int p = 0; p < crowd; p++) {
                if (shown[p] >= 0 && shown[p] != (knows >> p & 1)) {
                    return false;
                }
            }
            return true;
        }

        /** The number of the TIE of these two, or -1; any numbers may be asked for. */
        int tieBetween(int a, int b) {
            for (int tie = 0; tie < tieCount; tie++) {
                if (low[tie] == Math.min(a, b) && high[tie] == Math.max(a, b)) {
                    return tie;
                }
            }
            return -1;
        }

        int addTie(int a, int b) {
            if (tieCount >= MOST_TIES) {
                return -1;
            }
            int tie = tieCount;
            low[tie] = Math.min(a, b);
            high[tie] = Math.max(a, b);
            worth[tie] = 1;
            odds[tie] = SURE_ODDS;
            must[tie] = false;
            tieCount++;
            return tie;
        }

        int addCut(int kind, int a, int b) {
            if (cutCount >= MOST_CUTS) {
                return -1;
            }
            int cut = cutCount;
            cutKind[cut] = kind;
            cutA[cut] = a;
            cutB[cut] = b;
            cutCount++;
            return cut;
        }

        int bothOf(int tie) {
            return 1 << low[tie] | 1 << high[tie];
        }

        boolean isOpen(int tie, int day) {
            for (int cut = 0; cut < cutCount; cut++) {
                if (isCutBy(cut, tie, day)) {
                    return false;
                }
            }
            return true;
        }

        private boolean isCutBy(int cut, int tie, int day) {
            int both = bothOf(tie);
            int within = both & cutA[cut];
            switch (cutKind[cut]) {
                case TIE: return cutA[cut] == tie;
                case TABLE: return Integer.bitCount(within) == 1 && !must[tie];
                case SHIFT: return Integer.bitCount(within) == 1;
                case LATE: return cutA[cut] == tie && day >= cutB[cut];
                case SEAT: return within != 0;
                case TOLD: return within == both;
                default: return false;
            }
        }

        int openTies(int day) {
            int set = 0;
            for (int tie = 0; tie < tieCount; tie++) {
                if (isOpen(tie, day)) {
                    set |= 1 << tie;
                }
            }
            return set;
        }

        int unsureTies() {
            int set = 0;
            for (int tie = 0; tie < tieCount; tie++) {
                if (odds[tie] < SURE_ODDS && isOpen(tie, 0)) {
                    set |= 1 << tie;
                }
            }
            return set;
        }

        static int kindAbove(int kind) {
            return kind > 0 && kind < KIND_ABOVE.length ? KIND_ABOVE[kind] : -1;
        }

        static boolean isUnder(int kind, int as) {
            int level = kind;
            for (int i = 0; i < KIND_ABOVE.length && level >= 0; i++) {
                if (level == as) {
                    return true;
                }
                level = kindAbove(level);
            }
            return false;
        }
    }

    /** THE TAPE, and the reader of its TEXT: a fault is always at the NAME, NUMBER or byte that was read last. */
    private static final class Tape {
        private static final int MOST_BYTES = 200;
        private static final int END = 0, NAME = 1, NUMBER = 2, STOP = 3, OTHER = 4;
        private static final int WORTH_TOLD = 1, ODDS_TOLD = 2, MUST_TOLD = 4;

        final byte[] bytes = new byte[MOST_BYTES];
        int length = 0;
        int start = 0;
        private int at = 0;
        private int sort = END;
        private int value = -1;

        boolean take(long eight, int n) {
            if (length + n > MOST_BYTES) {
                return false;
            }
            for (int i = 0; i < n; i++) {
                bytes[length] = (byte) (eight >>> 8 * i);
                length++;
            }
            return true;
        }

        /** Whether THE TAPE is a TEXT, which the draft then holds; if not, start is its FAULT. */
        boolean isReadInto(Works draft) {
            at = 0;
            step();
            if (!isWord("people") || !stepNumber(1, MOST_PEOPLE)) {
                return false;
            }
            draft.startWith(value);
            if (!stepStop()) {
                return false;
            }
            step();
            for (int i = 0; i < MOST_BYTES && sort != END; i++) {
                boolean right = isWord("tie") ? isTiePiece(draft)
                        : isWord("first") ? isFirstPiece(draft)
                        : isWord("seat") ? isSeatPiece(draft)
                        : isWord("late") && isLatePiece(draft);
                if (!right) {
                    return false;
                }
                step();
            }
            return sort == END;
        }

        private boolean isTiePiece(Works draft) {
            if (draft.tieCount >= MOST_TIES || !stepNumber(0, draft.crowd - 1)) {
                return false;
            }
            int a = value;
            if (!stepNumber(0, draft.crowd - 1) || value == a || draft.tieBetween(a, value) >= 0) {
                return false;
            }
            int tie = draft.addTie(a, value);
            int told = 0;
            step();
            for (int i = 0; i < 3 && sort != STOP; i++) {
                int more = readExtra(draft, tie, told);
                if (more == 0) {
                    return false;
                }
                told |= more;
                step();
            }
            return sort == STOP;
        }

        /** Which of worth, odds, must the NAME is, or 0 if it is none of them. */
        private int extraNamed() {
            if (isWord("worth")) {
                return WORTH_TOLD;
            }
            if (isWord("odds")) {
                return ODDS_TOLD;
            }
            return isWord("must") ? MUST_TOLD : 0;
        }

        /** Which of worth, odds, must is told, or 0 if it can't be. */
        private int readExtra(Works draft, int tie, int told) {
            int extra = extraNamed();
            if ((told & extra) != 0) {
                return 0;
            }
            switch (extra) {
                case WORTH_TOLD:
                    if (!stepNumber(0, 99)) {
                        return 0;
                    }
                    draft.worth[tie] = value;
                    return extra;
                case ODDS_TOLD:
                    if (!stepNumber(1, SURE_ODDS)) {
                        return 0;
                    }
                    draft.odds[tie] = value;
                    return extra;
                case MUST_TOLD:
                    draft.must[tie] = true;
                    return extra;
                default:
                    return 0;
            }
        }

        private boolean isFirstPiece(Works draft) {
            if (!stepNumber(0, draft.crowd - 1)) {
                return false;
            }
            int p = value;
            step();
            if (!isWord("weight") || !stepNumber(0, 9)) {
                return false;
            }
            draft.weight[p] = value;
            return stepStop();
        }

        private boolean isSeatPiece(Works draft) {
            if (draft.cutCount >= MOST_CUTS || !stepNumber(0, draft.crowd - 1)) {
                return false;
            }
            int set = 1 << value;
            step();
            for (int i = 0; i < MOST_BYTES && sort != STOP; i++) {
                if (!isWord("and") || !stepNumber(0, draft.crowd - 1)) {
                    return false;
                }
                set |= 1 << value;
                step();
            }
            draft.addCut(Works.SEAT, set, 0);
            return sort == STOP;
        }

        private boolean isLatePiece(Works draft) {
            if (draft.cutCount >= MOST_CUTS || !stepNumber(0, draft.tieCount - 1)) {
                return false;
            }
            int tie = value;
            if (!stepNumber(0, 99)) {
                return false;
            }
            draft.addCut(Works.LATE, tie, value);
            return stepStop();
        }

        private boolean stepNumber(int least, int most) {
            step();
            return sort == NUMBER && value >= least && value <= most;
        }

        private boolean stepStop() {
            step();
            return sort == STOP;
        }

        private void step() {
            while (at < length && bytes[at] == ' ') {
                at++;
            }
            start = at;
            value = -1;
            if (at >= length) {
                sort = END;
                return;
            }
            sort = sortOf(bytes[at]);
            at++;
            boolean goesOn = sort == NAME || sort == NUMBER;
            while (goesOn && at < length && sortOf(bytes[at]) == sort) {
                at++;
            }
            if (sort == NUMBER) {
                readNumber();
            }
        }

        /** The value stays -1, which nobody takes, when there are more digits than two. */
        private void readNumber() {
            if (at - start > 2) {
                return;
            }
            value = 0;
            for (int i = start; i < at; i++) {
                value = value * 10 + (bytes[i] - '0');
            }
        }

        private boolean isWord(String word) {
            if (sort != NAME || at - start != word.length()) {
                return false;
            }
            for (int i = 0; i < word.length(); i++) {
                if (bytes[start + i] != word.charAt(i)) {
                    return false;
                }
            }
            return true;
        }

        private static int sortOf(byte b) {
            if (b >= 'a' && b <= 'z') {
                return NAME;
            }
            if (b >= '0' && b <= '9') {
                return NUMBER;
            }
            return b == ';' ? STOP : OTHER;
        }
    }

    /** Who has a TIE to whom, by some of the TIES. */
    private static final class Net {
        private static final int ANYBODY = (1 << MOST_PEOPLE) - 1;

        final int[] near = new int[MOST_PEOPLE];

        void lay(Works works, int ties) {
            Arrays.fill(near, 0);
            for (int tie = 0; tie < works.tieCount; tie++) {
                if ((ties >> tie & 1) != 0) {
                    near[works.low[tie]] |= 1 << works.high[tie];
                    near[works.high[tie]] |= 1 << works.low[tie];
                }
            }
        }

        /** All whom ways from these reach that stay among those. */
        int flood(int from, int among) {
            int found = from & among & ANYBODY;
            int fresh = found;
            for (int i = 0; i < MOST_PEOPLE && fresh != 0; i++) {
                int p = Integer.bitCount((fresh & -fresh) - 1);
                int more = near[p] & among & ~found;
                found |= more;
                fresh = fresh & fresh - 1 | more;
            }
            return found;
        }

        int around(int set) {
            int all = 0;
            for (int p = 0; p < MOST_PEOPLE; p++) {
                if ((set >> p & 1) != 0) {
                    all |= near[p];
                }
            }
            return all;
        }

        boolean isThreatened(int knows, int away) {
            return (around(knows) & ~knows & ~away) != 0;
        }

        int howManySets(int among) {
            int left = among;
            int count = 0;
            for (int i = 0; i < MOST_PEOPLE && left != 0; i++) {
                left &= ~flood(left & -left, among);
                count++;
            }
            return count;
        }

        int greatestSet(int among) {
            int left = among;
            int most = 0;
            for (int i = 0; i < MOST_PEOPLE && left != 0; i++) {
                int set = flood(left & -left, among);
                left &= ~set;
                most = Math.max(most, Integer.bitCount(set));
            }
            return most;
        }
    }

    /** The sums over all ways in which UNSURE TIES may tell or not; each way counts as often as its odds say. */
    private static final class Tale {
        private final int[] unsure = new int[MOST_UNSURE];
        private int howMany = 0;
        private int sure = 0;

        void gather(Works works) {
            int doubtful = works.unsureTies();
            sure = works.openTies(0) & ~doubtful;
            howMany = 0;
            for (int tie = 0; tie < works.tieCount; tie++) {
                if ((doubtful >> tie & 1) != 0 && howMany < MOST_UNSURE) {
                    unsure[howMany] = tie;
                    howMany++;
                }
            }
        }

        long allOdds(Works works) {
            return (long) works.weightOf(works.everybody()) << 2 * howMany;
        }

        /** Lays the TIES that tell in this way, and answers its odds. */
        private int layWay(Works works, Net net, int way) {
            int ties = sure;
            int odds = 1;
            for (int i = 0; i < howMany; i++) {
                int tie = unsure[i];
                if ((way >> i & 1) != 0) {
                    ties |= 1 << tie;
                    odds *= works.odds[tie];
                } else {
                    odds *= SURE_ODDS - works.odds[tie];
                }
            }
            net.lay(works, ties);
            return odds;
        }

        long oddsToKnow(Works works, Net net, int p) {
            long sum = 0;
            for (int way = 0; way < 1 << howMany; way++) {
                long odds = layWay(works, net, way);
                sum += odds * works.weightOf(net.flood(1 << p, works.everybody()));
            }
            return sum;
        }

        long meanKnowing(Works works, Net net) {
            long sum = 0;
            for (int way = 0; way < 1 << howMany; way++) {
                long odds = layWay(works, net, way);
                int left = works.everybody();
                for (int i = 0; i < MOST_PEOPLE && left != 0; i++) {
                    int set = net.flood(left & -left, works.everybody());
                    left &= ~set;
                    sum += odds * works.weightOf(set) * Integer.bitCount(set);
                }
            }
            return sum;
        }

        /** The odds that one of these was FIRST and all is so that is SEEN. */
        long oddsShown(Works works, Net net, int firsts) {
            long sum = 0;
            for (int way = 0; way < 1 << howMany; way++) {
                long odds = layWay(works, net, way);
                int left = firsts;
                for (int i = 0; i < MOST_PEOPLE && left != 0; i++) {
                    int set = net.flood(left & -left, works.everybody());
                    if (works.isAsShown(set)) {
                        sum += odds * works.weightOf(set & firsts);
                    }
                    left &= ~set;
                }
            }
            return sum;
        }
    }

    /** PEOPLE parted into sets: each has the number of his set; all partings come one behind the other. */
    private static final class Parting {
        /** So many partings 7 PEOPLE have. */
        static final int MOST = 877;

        private final int[] setOf = new int[MOST_PEOPLE];
        private int crowd = 0;

        boolean begin(int people) {
            crowd = Math.min(people, MOST_PEOPLE);
            Arrays.fill(setOf, 0);
            return true;
        }

        void halve(int side) {
            for (int p = 0; p < MOST_PEOPLE; p++) {
                setOf[p] = side >> p & 1;
            }
        }

        /** The numbers of sets are such that a new one is the least unused: so no parting comes twice. */
        boolean advance() {
            for (int p = crowd - 1; p > 0; p--) {
                if (setOf[p] < unusedBefore(p)) {
                    setOf[p]++;
                    for (int later = p + 1; later < crowd; later++) {
                        setOf[later] = 0;
                    }
                    return true;
                }
            }
            return false;
        }

        private int unusedBefore(int p) {
            int most = -1;
            for (int q = 0; q < p; q++) {
                most = Math.max(most, setOf[q]);
            }
            return most + 1;
        }

        boolean holds(int m) {
            for (int p = 0; p < crowd; p++) {
                int size = 1;
                for (int q = 0; q < p; q++) {
                    if (setOf[q] == setOf[p]) {
                        size++;
                    }
                }
                if (size > m) {
                    return false;
                }
            }
            return true;
        }

        private boolean isWithin(Works works, int tie) {
            return setOf[works.low[tie]] == setOf[works.high[tie]];
        }

        /** TIES (by ONE_TIE) and WORTH of those between unlike sets; NONE if one of them MUST be. */
        int cost(Works works, int ties) {
            int sum = 0;
            for (int tie = 0; tie < works.tieCount; tie++) {
                if ((ties >> tie & 1) == 0 || isWithin(works, tie)) {
                    continue;
                }
                if (works.must[tie]) {
                    return NONE;
                }
                sum += ONE_TIE + works.worth[tie];
            }
            return sum;
        }

        int worthWithin(Works works) {
            int sum = 0;
            for (int tie = 0; tie < works.tieCount; tie++) {
                if (isWithin(works, tie)) {
                    sum += works.worth[tie];
                }
            }
            return sum;
        }
    }

    /** How the tale goes DAY by DAY. */
    private static final class Days {
        final int[] behind = new int[MOST_PEOPLE];
        private final int[] reached = new int[MOST_PEOPLE];

        /** Fills in EARLY of everybody; NONE for those who can't. */
        void follow(Works works, int from) {
            Arrays.fill(behind, NONE);
            behind[from] = 0;
            int knows = 1 << from;
            for (int day = 0; day < DAYS_IN_ALL; day++) {
                int more = spread(works, knows, day) & ~knows;
                // a TIE that is cut stays cut on later DAYS, so nothing comes behind a DAY without news
                if (more == 0) {
                    break;
                }
                for (int p = 0; p < works.crowd; p++) {
                    if ((more >> p & 1) != 0) {
                        behind[p] = day + 1;
                    }
                }
                knows |= more;
            }
        }

        private static boolean isAtEdge(Works works, int tie, int knows) {
            return Integer.bitCount(works.bothOf(tie) & knows) == 1;
        }

        private static int spread(Works works, int knows, int day) {
            int all = knows;
            for (int tie = 0; tie < works.tieCount; tie++) {
                if (isAtEdge(works, tie, knows) && works.isOpen(tie, day)) {
                    all |= works.bothOf(tie);
                }
            }
            return all;
        }

        int knowingBehind(int days) {
            int set = 0;
            for (int p = 0; p < MOST_PEOPLE; p++) {
                if (behind[p] >= 0 && behind[p] <= days) {
                    set |= 1 << p;
                }
            }
            return set;
        }

        /** Whom each one alone could have told behind so many DAYS: several tell just all whom each would. */
        void fillReached(Works works, int days) {
            for (int p = 0; p < works.crowd; p++) {
                follow(works, p);
                reached[p] = knowingBehind(days);
            }
        }

        int reachedBy(int set) {
            int all = 0;
            for (int p = 0; p < MOST_PEOPLE; p++) {
                if ((set >> p & 1) != 0) {
                    all |= reached[p];
                }
            }
            return all;
        }

        /** One DAY of a RUN. */
        int chanceDay(Works works, int knows, int day) {
            int all = knows;
            for (int tie = 0; tie < works.tieCount; tie++) {
                if (isAtEdge(works, tie, knows) && works.isOpen(tie, day)) {
                    works.z = works.z * 1103515245 + 12345;
                    if ((works.z >>> 16) % 4 < works.odds[tie]) {
                        all |= works.bothOf(tie);
                    }
                }
            }
            return all;
        }
    }

    /** ROWS of DAY, FROM, TO. */
    private static final class Rows {
        private static final int DAY = 0, FROM = 1, TO = 2;

        final int[][] cell = new int[MOST_PEOPLE][3];
        int count = 0;

        boolean has(int i, int what) {
            return i >= 0 && i < count && what >= DAY && what <= TO;
        }

        /** Each FROM has EARLY just one below that of TO (else TO had known sooner): so ROW i is of DAY i. */
        void tellHow(Works works, Days days, int to) {
            count = Math.min(days.behind[to], MOST_PEOPLE);
            int told = to;
            for (int day = count - 1; day >= 0; day--) {
                int teller = leastTeller(works, days.knowingBehind(day), told, day);
                cell[day][DAY] = day;
                cell[day][FROM] = teller;
                cell[day][TO] = told;
                told = teller;
            }
        }

        private static int leastTeller(Works works, int knows, int told, int day) {
            for (int p = 0; p < works.crowd; p++) {
                if ((knows >> p & 1) != 0 && isTold(works, p, told, day)) {
                    return p;
                }
            }
            return told;
        }

        private static boolean isTold(Works works, int from, int to, int day) {
            int tie = works.tieBetween(from, to);
            return tie >= 0 && works.isOpen(tie, day);
        }

        int verdict(Works works, int from, int to) {
            int knower = from;
            int dayAhead = -1;
            for (int i = 0; i < count; i++) {
                int day = cell[i][DAY];
                boolean right = day > dayAhead && day < DAYS_IN_ALL && cell[i][FROM] == knower;
                if (!right || !isTold(works, knower, cell[i][TO], day)) {
                    return i + 1;
                }
                knower = cell[i][TO];
                dayAhead = day;
            }
            return knower == to ? 0 : ANOTHER_END;
        }
    }

    /** SHEETS and SHELVES. A SHELF's row can only be counted, so that its sort and size are all that is held. */
    private static final class Host {
        static final int MISSING = -1, BYTES = 0, SHORTS = 1, INTS = 2, LONGS = 3, MOST_ITEMS = 40;
        private static final int PLACES = 4, HOLDS_NOTHING = 0, HOLDS_CUT = 1, HOLDS_ROW = 2;

        final int[] sort = {MISSING, MISSING, MISSING, MISSING};
        final int[] size = new int[PLACES];
        final int[][] items = new int[PLACES][MOST_ITEMS];
        private final int[] holds = new int[PLACES];
        final int[] heldNumber = new int[PLACES];
        final int[] heldSort = new int[PLACES];

        static boolean hasPlace(int i) {
            return i >= 0 && i < PLACES;
        }

        void renew(int sheet, int newSort, int n) {
            sort[sheet] = newSort;
            size[sheet] = newSort == MISSING ? 0 : n;
            Arrays.fill(items[sheet], 0);
        }

        /** Why a SHEET can't be taken for a sort, or 0. */
        int refusalOf(int sheet, int as) {
            if (sort[sheet] == MISSING) {
                return NOTHING_THERE;
            }
            return sort[sheet] == as ? 0 : OF_ANOTHER_SORT;
        }

        /** Of a long only the lowest 32 bits are ever asked for. */
        static int narrowed(int v, int sort) {
            if (sort == BYTES) {
                return (byte) v;
            }
            return sort == SHORTS ? (short) v : v;
        }

        void holdCut(int shelf, int cut) {
            holds[shelf] = HOLDS_CUT;
            heldNumber[shelf] = cut;
        }

        void holdRow(int shelf, int sheet) {
            holds[shelf] = sort[sheet] == MISSING ? HOLDS_NOTHING : HOLDS_ROW;
            heldSort[shelf] = sort[sheet];
            heldNumber[shelf] = size[sheet];
        }

        void holdNothing(int shelf) {
            holds[shelf] = HOLDS_NOTHING;
        }

        boolean isRow(int shelf) {
            return holds[shelf] == HOLDS_ROW;
        }

        /** The number of the CUT held, of which there may be none any more; -1 if no CUT is held. */
        int cutOn(int shelf) {
            return holds[shelf] == HOLDS_CUT ? heldNumber[shelf] : -1;
        }
    }

    /**
     * ACTS and THE TRACE. Each ACT is one method over the KIND whose body is asked for: a super call asks for that
     * of the KIND above, every other call for that of the thing's own KIND.
     */
    private static final class Acts {
        private static final int MOST_BODIES = 30;

        final int[] bodies = new int[MOST_BODIES];
        int count = 0;
        private boolean broken = false;
        private int own = 0;
        private int n = 0;
        private int a = 0;

        void forget() {
            count = 0;
            broken = false;
        }

        int perform(Works works, int cut, int act, int x) {
            own = works.cutKind[cut];
            n = cut;
            a = works.cutA[cut];
            int answer = act == 0 ? parts(own, x)
                    : act == 1 ? costs(own, x)
                    : act == 2 ? shares(own, x)
                    : tells(own, x);
            return broken ? PARTED_BY_0 : answer;
        }

        /** Nothing begins any more behind a parting by 0. */
        private void begin(int body) {
            if (!broken && count < MOST_BODIES) {
                bodies[count] = body;
                count++;
            }
        }

        private int parts(int kind, int x) {
            switch (kind) {
                case Works.TABLE:
                    begin(30);
                    return parts(Works.CUT, x) * 3;
                case Works.SHIFT:
                    begin(41);
                    return parts(Works.TABLE, x) - n;
                case Works.LATE:
                    begin(50);
                    return 0 - parts(Works.TIE, x);
                case Works.TOLD:
                    begin(70);
                    return parts(Works.CUT, x) ^ a;
                case Works.TIE:
                    return parts(Works.CUT, x);
                case Works.SEAT:
                    return parts(Works.SHIFT, x);
                default:
                    begin(10);
                    return x + n;
            }
        }

        private int costs(int kind, int x) {
            switch (kind) {
                case Works.TIE:
                    begin(20);
                    return costs(Works.CUT, x) - a;
                case Works.LATE:
                    begin(51);
                    return costs(Works.TIE, x) + parts(own, n);
                case Works.SEAT:
                    begin(60);
                    return costs(Works.SHIFT, x) + shares(own, a);
                case Works.SHIFT:
                    return costs(Works.TABLE, x);
                case Works.TABLE:
                case Works.TOLD:
                    return costs(Works.CUT, x);
                default:
                    begin(11);
                    return parts(own, x) * 2;
            }
        }

        private int shares(int kind, int x) {
            switch (kind) {
                case Works.SHIFT:
                    begin(40);
                    return shares(Works.TABLE, x + 2) ^ 1;
                case Works.TOLD:
                    begin(71);
                    return shares(Works.CUT, x) + parts(own, a);
                case Works.SEAT:
                    return shares(Works.SHIFT, x);
                case Works.LATE:
                    return shares(Works.TIE, x);
                case Works.TIE:
                case Works.TABLE:
                    return shares(Works.CUT, x);
                default:
                    begin(12);
                    return shareOut(x);
            }
        }

        private int shareOut(int x) {
            int by = a - n;
            if (by == 0) {
                broken = true;
                return 0;
            }
            return x / by;
        }

        private int tells(int kind, int x) {
            switch (kind) {
                case Works.TABLE:
                    begin(31);
                    return tells(Works.CUT, x) + shares(own, n);
                case Works.SEAT:
                    begin(61);
                    return tells(Works.SHIFT, x) * 2;
                case Works.SHIFT:
                    return tells(Works.TABLE, x);
                case Works.LATE:
                    return tells(Works.TIE, x);
                case Works.TIE:
                case Works.TOLD:
                    return tells(Works.CUT, x);
                default:
                    begin(13);
                    return costs(own, x) ^ a;
            }
        }
    }
}
