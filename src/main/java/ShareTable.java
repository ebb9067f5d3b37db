import java.util.NoSuchElementException;

/**
 * Tables of shares of things, as the document's promises 1 to 30 tell them.
 * Words in capitals (TABLE, ROW, PART, ..) are the document's terms.
 */
public final class ShareTable {
    public static final int NONE = -1;

    private static final int MOST_THINGS = 6;
    private static final int MOST_PAIRS = 36;
    private static final int MOST_SHARES = 216;
    private static final int MOST_OF_A_SHARE = 999999;
    private static final int MOST_SIGNS = 1000;
    private static final int MOST_POINTS = 12;
    private static final int MOST_ORDER_OF_SMALL = 60;
    private static final int MOST_STEPS = 10;
    private static final int MOST_UNDONE = 12;
    private static final int MOST_MARKS = 4;

    private static final int CANT_STAND = 1;
    private static final int TOLD_ALREADY = 3;
    private static final int NOT_AS_TOLD = 4;
    private static final int TOO_DEEP = 5;
    private static final int NOT_AS_WANTED = 6;

    private final Tokens tokens = new Tokens();
    private final TableReader tableReader = new TableReader(tokens);
    private final SchemeReader schemeReader = new SchemeReader(tokens);
    private final long[] ways = new long[MOST_THINGS];
    private final long[] nextWays = new long[MOST_THINGS];
    private final History history = new History();
    private final Table[] marks = new Table[MOST_MARKS];
    private int lastWhy = 0;

    public ShareTable() {
    }

    public int feed(long a, long b, long c) {
        tokens.addBytes(a);
        tokens.addBytes(b);
        tokens.addBytes(c);
        return tokens.length();
    }

    public int table() {
        Table made = tableReader.read();
        int fault = tokens.fault();
        tokens.clear();
        if (made != null) {
            history.done(made);
        }
        return fault;
    }

    public int scheme() {
        boolean told = schemeReader.read();
        int fault = tokens.fault();
        int end = tokens.length();
        tokens.clear();
        if (!told) {
            return fault;
        }
        Colouring colouring = schemeReader.coloured();
        lastWhy = colouring.findWhy();
        Table made = colouring.made();
        if (lastWhy != 0 || made == null) {
            return NOT_AS_WANTED + 16 * end;
        }
        history.done(made);
        return 0;
    }

    public int why() {
        return lastWhy;
    }

    public int gives(int i, int j, int k) {
        Table now = history.now();
        return now.has(i) && now.has(j) && now.has(k) ? now.share(i, j, k) : NONE;
    }

    public int thing(int thing, int what) {
        Table now = history.now();
        if (!now.has(thing)) {
            return NONE;
        }
        if (what == 0) {
            return now.reverse(thing);
        }
        return what == 1 ? now.size(thing) : NONE;
    }

    public int order() {
        return history.now().allSizes();
    }

    public int law(int what) {
        Table now = history.now();
        if (what == 0) {
            return now.brokenLaw();
        }
        return now.brokenLaw() == 0 ? NONE : now.placeOfBreak(what);
    }

    public int rows() {
        RowSet set = history.now().rowSet();
        return set == null ? NONE : set.found();
    }

    public int row(int row, int thing) throws NoSuchElementException {
        RowSet set = history.now().rowSet();
        if (set == null || !set.has(row) || !history.now().has(thing)) {
            throw new NoSuchElementException();
        }
        return set.number(row, thing);
    }

    public long counts(int row, int what) {
        RowSet set = history.now().rowSet();
        if (set == null || !set.has(row) || what < 0 || what > 1) {
            return NONE;
        }
        return what == 0 ? set.countAbove(row) : set.countBelow(row);
    }

    public long dual(int a, int b, int c, int what) throws NoSuchElementException {
        RowSet set = history.now().rowSet();
        if (set == null || !set.isSplit() || what < 0 || what > 1) {
            throw new NoSuchElementException();
        }
        if (!set.has(a) || !set.has(b) || !set.has(c)) {
            throw new NoSuchElementException();
        }
        return what == 0 ? set.dualAbove(a, b, c) : set.dualBelow(a, b, c);
    }

    public int twin() {
        RowSet set = history.now().rowSet();
        if (set == null || !set.isSplit()) {
            return NONE;
        }
        return set.isOwnTwin() ? 1 : 0;
    }

    public int parts() {
        Groupings groupings = history.now().groupings();
        return groupings == null ? NONE : groupings.partCount();
    }

    public int part(int i) {
        Groupings groupings = history.now().groupings();
        return groupings == null ? NONE : groupings.bitsOfPart(i);
    }

    public int quotient(int i) {
        Table now = history.now();
        Groupings groupings = now.groupings();
        if (groupings == null || groupings.bitsOfPart(i) == NONE) {
            return NONE;
        }
        return take(Maker.dividedBy(now, groupings.bitsOfPart(i)));
    }

    public int fuses() {
        Groupings groupings = history.now().groupings();
        return groupings == null ? NONE : groupings.partitionCount();
    }

    public int fusing(int i, int thing) {
        Groupings groupings = history.now().groupings();
        return groupings == null || !groupings.hasPartition(i) ? NONE : groupings.classOf(i, thing);
    }

    public int fuse(int i) {
        Groupings groupings = history.now().groupings();
        if (groupings == null || !groupings.hasPartition(i)) {
            return NONE;
        }
        return take(Maker.fusedBy(history.now(), groupings, i));
    }

    public int wreath(int mark) {
        if (mark < 0 || mark >= MOST_MARKS) {
            return NONE;
        }
        Table outer = marks[mark];
        return outer == null ? NONE : take(Maker.wreathed(history.now(), outer));
    }

    public int kind(int v, int k, int l, int m) {
        return KindSieve.fits(v, k, l, m) ? KindSieve.reasonOf(v, k, l, m) : NONE;
    }

    public int kinds(int v, int reason) {
        if (!KindSieve.fitsPoints(v) || reason < 0 || reason > 5) {
            return NONE;
        }
        return KindSieve.howMany(v, reason);
    }

    public int kept(int v, int i) {
        return KindSieve.fitsPoints(v) && i >= 0 ? KindSieve.keptAt(v, i) : NONE;
    }

    public long walks(int by, int n, int at) {
        Table now = history.now();
        if (!now.has(by) || !now.has(at) || at >= MOST_THINGS || n < 0 || n > MOST_STEPS || !now.isSmall()) {
            return NONE;
        }
        beginWalk();
        for (int step = 0; step < n; step++) {
            stepBy(by);
        }
        return ways[at];
    }

    public int mixed(int by) {
        Table now = history.now();
        if (!now.has(by) || !now.isSmall()) {
            return NONE;
        }
        beginWalk();
        for (int n = 0; n <= MOST_STEPS; n++) {
            if (isEverywhere()) {
                return n;
            }
            stepBy(by);
        }
        return NONE;
    }

    public boolean undo() {
        return history.goBack();
    }

    public boolean again() {
        return history.goOn();
    }

    public boolean mark(int mark, boolean back) {
        if (mark < 0 || mark >= MOST_MARKS) {
            return false;
        }
        if (!back) {
            marks[mark] = history.now();
            return true;
        }
        Table held = marks[mark];
        if (held == null) {
            return false;
        }
        history.done(held);
        return true;
    }

    public int count(int what) {
        switch (what) {
            case 0:
                return history.now().things();
            case 1:
                return history.pastCount();
            case 2:
                return history.futureCount();
            case 3:
                return tokens.length();
            default:
                return NONE;
        }
    }

    /** Makes it the TABLE, unless it is REFUSED. */
    private int take(Table made) {
        if (made == null) {
            return NONE;
        }
        history.done(made);
        return made.things();
    }

    private void beginWalk() {
        for (int k = 0; k < MOST_THINGS; k++) {
            ways[k] = k == 0 ? 1 : 0;
        }
    }

    private void stepBy(int by) {
        Table now = history.now();
        for (int k = 0; k < MOST_THINGS; k++) {
            nextWays[k] = 0;
            for (int j = 0; j < MOST_THINGS; j++) {
                nextWays[k] += ways[j] * now.share(by, j, k);
            }
        }
        for (int k = 0; k < MOST_THINGS; k++) {
            ways[k] = nextWays[k];
        }
    }

    private boolean isEverywhere() {
        for (int k = 0; k < MOST_THINGS; k++) {
            if (history.now().has(k) && ways[k] == 0) {
                return false;
            }
        }
        return true;
    }

    /** The TABLE of now, those before it and those that were UNDONE. A TABLE never changes once it is here. */
    private static final class History {
        private final Table[] past = new Table[MOST_UNDONE];
        private final Table[] future = new Table[MOST_UNDONE];
        private int pastCount = 0;
        private int futureCount = 0;
        private Table now = Table.withUnit(1);

        Table now() {
            return now;
        }

        int pastCount() {
            return pastCount;
        }

        int futureCount() {
            return futureCount;
        }

        void done(Table next) {
            pushPast();
            now = next;
            for (int i = 0; i < MOST_UNDONE; i++) {
                future[i] = null;
            }
            futureCount = 0;
        }

        boolean goBack() {
            if (pastCount < 1 || futureCount >= MOST_UNDONE) {
                return false;
            }
            Table earlier = past[pastCount - 1];
            if (earlier == null) {
                return false;
            }
            pastCount--;
            past[pastCount] = null;
            future[futureCount] = now;
            futureCount++;
            now = earlier;
            return true;
        }

        boolean goOn() {
            if (futureCount < 1) {
                return false;
            }
            Table later = future[futureCount - 1];
            if (later == null) {
                return false;
            }
            futureCount--;
            future[futureCount] = null;
            pushPast();
            now = later;
            return true;
        }

        private void pushPast() {
            if (pastCount >= MOST_UNDONE) {
                for (int i = 1; i < MOST_UNDONE; i++) {
                    past[i - 1] = past[i];
                }
                pastCount = MOST_UNDONE - 1;
            }
            past[pastCount] = now;
            pastCount++;
        }
    }

    /** What any two things give, and each thing's REVERSE; what follows from these is found when first asked for. */
    private static final class Table {
        private static final int NOT_JUDGED = -1;
        private static final int GROUPING = 1;
        private static final int SOME_UNIT = 2;
        private static final int REVERSING = 3;
        private static final int SIZING = 4;

        private final int things;
        private final int[] shares = new int[MOST_SHARES];
        private final int[] reverses = new int[MOST_THINGS];
        private int broken = NOT_JUDGED;
        private int brokenAtI = 0;
        private int brokenAtJ = 0;
        private int brokenAtK = 0;
        private RowSet rowSet = null;
        private Groupings groupings = null;

        Table(int things) {
            this.things = Math.max(1, Math.min(things, MOST_THINGS));
            for (int i = 0; i < this.things; i++) {
                reverses[i] = i;
            }
        }

        static Table withUnit(int things) {
            Table made = new Table(things);
            for (int i = 0; i < made.things; i++) {
                made.putBothWays(0, i, i, 1);
            }
            return made;
        }

        int things() {
            return things;
        }

        boolean has(int thing) {
            return thing >= 0 && thing < things;
        }

        int share(int i, int j, int k) {
            int spot = (i * MOST_THINGS + j) * MOST_THINGS + k;
            return spot >= 0 && spot < MOST_SHARES ? shares[spot] : 0;
        }

        void put(int i, int j, int k, int share) {
            if (has(i) && has(j) && has(k)) {
                shares[(i * MOST_THINGS + j) * MOST_THINGS + k] = share;
            }
        }

        void putBothWays(int i, int j, int k, int share) {
            put(i, j, k, share);
            put(j, i, k, share);
        }

        int reverse(int thing) {
            return thing >= 0 && thing < things ? reverses[thing] : 0;
        }

        void putReverse(int thing, int reverse) {
            if (has(thing) && has(reverse)) {
                reverses[thing] = reverse;
            }
        }

        int size(int thing) {
            return thing >= 0 && thing < things ? shares[(thing * MOST_THINGS + reverses[thing]) * MOST_THINGS] : 0;
        }

        int allSizes() {
            int sum = 0;
            for (int i = 0; i < things; i++) {
                sum += size(i);
            }
            return sum;
        }

        int brokenLaw() {
            if (broken == NOT_JUDGED) {
                broken = 0;
                for (int which = GROUPING; which <= SIZING && broken == 0; which++) {
                    judge(which);
                }
            }
            return broken;
        }

        int placeOfBreak(int what) {
            switch (what) {
                case 1:
                    return brokenAtI;
                case 2:
                    return brokenAtJ;
                case 3:
                    return brokenAtK;
                default:
                    return NONE;
            }
        }

        boolean isSmall() {
            return brokenLaw() == 0 && allSizes() <= MOST_ORDER_OF_SMALL;
        }

        /** null: not SMALL. */
        RowSet rowSet() {
            if (rowSet == null && brokenLaw() == 0 && allSizes() <= MOST_ORDER_OF_SMALL) {
                rowSet = new RowSet(this);
            }
            return rowSet;
        }

        /** null: not GOOD. */
        Groupings groupings() {
            if (groupings == null && brokenLaw() == 0) {
                groupings = new Groupings(this);
            }
            return groupings;
        }

        private void judge(int which) {
            int thirds = which == GROUPING || which == REVERSING ? things : 1;
            for (int i = 0; i < things; i++) {
                for (int j = 0; j < things; j++) {
                    for (int k = 0; k < thirds; k++) {
                        if (isBroken(which, i, j, k)) {
                            broken = which;
                            brokenAtI = i;
                            brokenAtJ = j;
                            brokenAtK = k;
                            return;
                        }
                    }
                }
            }
        }

        private boolean isBroken(int which, int i, int j, int k) {
            switch (which) {
                case GROUPING:
                    // any two give the same in both orders, so K, J, I says what I, J, K said
                    return i < k && breaksGrouping(i, j, k);
                case SOME_UNIT:
                    return (share(i, j, 0) > 0) != (reverse(i) == j);
                case REVERSING:
                    return share(reverse(i), reverse(j), reverse(k)) != share(i, j, k);
                default:
                    return breaksSizing(i, j);
            }
        }

        private boolean breaksGrouping(int i, int j, int k) {
            for (int of = 0; of < things; of++) {
                long leftFirst = 0;
                long rightFirst = 0;
                for (int by = 0; by < things; by++) {
                    leftFirst += (long) share(i, j, by) * share(by, k, of);
                    rightFirst += (long) share(j, k, by) * share(i, by, of);
                }
                if (leftFirst != rightFirst) {
                    return true;
                }
            }
            return false;
        }

        private boolean breaksSizing(int i, int j) {
            long together = 0;
            for (int k = 0; k < things; k++) {
                together += (long) share(i, j, k) * size(k);
            }
            return (long) size(i) * size(j) != together;
        }
    }

    /** The ROWS of a SMALL TABLE with their COUNTS, DUAL numbers and its TWIN. */
    private static final class RowSet {
        /** Whether a matrix is singular is asked modulo this prime: it only sifts, each ROW is proved exactly after. */
        private static final long PRIME = 2147483647L;
        /** The sum of 2 * SIZE + 1 over at most 6 things is 126 at most, as ORDER is 60 at most. */
        private static final int MOST_TRIALS = 128;

        private final Table table;
        private final int things;
        private final int[] numbers = new int[MOST_PAIRS];
        private final long[] above = new long[MOST_THINGS];
        private final long[] below = new long[MOST_THINGS];
        private final int[] starts = new int[MOST_THINGS];
        private final boolean[] possible = new boolean[MOST_TRIALS];
        private final int[] trial = new int[MOST_THINGS];
        private final long[] matrix = new long[MOST_PAIRS];
        /** All SIZES multiplied: what is divided by some of them stays whole over it. */
        private final long common;
        private final long[] commonBySize = new long[MOST_THINGS];
        private final long dualDown;
        private final int[] rowOf = new int[MOST_THINGS];
        private int found = 0;
        private boolean split = false;
        private int twinKnown = NONE;

        RowSet(Table table) {
            this.table = table;
            this.things = table.things();
            long product = 1;
            for (int i = 0; i < things; i++) {
                product *= Math.max(1, table.size(i));
            }
            this.common = product;
            this.dualDown = table.allSizes() * product * product;
            for (int i = 0; i < things; i++) {
                commonBySize[i] = product / Math.max(1, table.size(i));
            }
            sift();
            trial[0] = 1;
            extend(1);
            countAll();
        }

        int found() {
            return found;
        }

        boolean has(int row) {
            return row >= 0 && row < found;
        }

        boolean isSplit() {
            return split;
        }

        int number(int row, int thing) {
            int spot = row * MOST_THINGS + thing;
            return spot >= 0 && spot < MOST_PAIRS ? numbers[spot] : 0;
        }

        long countAbove(int row) {
            return row >= 0 && row < found ? above[row] : NONE;
        }

        long countBelow(int row) {
            return row >= 0 && row < found ? below[row] : NONE;
        }

        long dualAbove(int a, int b, int c) {
            long up = dualUp(a, b, c);
            return lowered(up, commonDivisor(up, dualDown));
        }

        long dualBelow(int a, int b, int c) {
            return lowered(dualDown, commonDivisor(dualUp(a, b, c), dualDown));
        }

        boolean isOwnTwin() {
            if (twinKnown == NONE) {
                twinKnown = split && matchesWithLast() ? 1 : 0;
            }
            return twinKnown == 1;
        }

        /** The ROW of SIZES has the greatest number of each thing, so it comes last. */
        private boolean matchesWithLast() {
            rowOf[0] = found - 1;
            return agreesUpTo(0) && matchFrom(1, 1 << (found - 1));
        }

        private boolean matchFrom(int thing, int used) {
            if (thing >= things || thing >= MOST_THINGS) {
                return true;
            }
            for (int row = 0; row < found; row++) {
                if ((used >> row & 1) == 0) {
                    rowOf[thing] = row;
                    if (agreesUpTo(thing) && matchFrom(thing + 1, used | 1 << row)) {
                        return true;
                    }
                }
            }
            return false;
        }

        private boolean agreesUpTo(int thing) {
            for (int i = 0; i <= thing; i++) {
                for (int j = 0; j <= i; j++) {
                    for (int k = 0; k <= thing; k++) {
                        boolean isNew = i == thing || k == thing;
                        if (isNew && dualUp(rowOf[i], rowOf[j], rowOf[k]) != table.share(i, j, k) * dualDown) {
                            return false;
                        }
                    }
                }
            }
            return true;
        }

        /** Each number of a ROW is a root of its thing's matrix: few enough are left to try all together. */
        private void sift() {
            int start = 0;
            for (int thing = 0; thing < things; thing++) {
                starts[thing] = start;
                int size = table.size(thing);
                for (int x = -size; x <= size; x++) {
                    if (start < MOST_TRIALS) {
                        possible[start] = isSingular(thing, x);
                        start++;
                    }
                }
            }
        }

        private boolean isSingular(int thing, int x) {
            for (int j = 0; j < things; j++) {
                for (int k = 0; k < things; k++) {
                    long entry = table.share(thing, j, k) - (j == k ? x : 0);
                    matrix[j * MOST_THINGS + k] = Math.floorMod(entry, PRIME);
                }
            }
            for (int step = 0; step < things; step++) {
                int pivot = pivotRow(step);
                if (pivot == NONE) {
                    return true;
                }
                swapRows(step, pivot);
                clearBelow(step);
            }
            return false;
        }

        private int pivotRow(int step) {
            for (int j = step; j < things; j++) {
                if (matrix[j * MOST_THINGS + step] != 0) {
                    return j;
                }
            }
            return NONE;
        }

        private void swapRows(int j, int other) {
            for (int k = 0; k < things; k++) {
                long kept = matrix[j * MOST_THINGS + k];
                matrix[j * MOST_THINGS + k] = matrix[other * MOST_THINGS + k];
                matrix[other * MOST_THINGS + k] = kept;
            }
        }

        private void clearBelow(int step) {
            long pivot = matrix[step * MOST_THINGS + step];
            for (int j = step + 1; j < things; j++) {
                long lead = matrix[j * MOST_THINGS + step];
                for (int k = step; k < things; k++) {
                    long entry = matrix[j * MOST_THINGS + k] * pivot - matrix[step * MOST_THINGS + k] * lead;
                    matrix[j * MOST_THINGS + k] = Math.floorMod(entry, PRIME);
                }
            }
        }

        private void extend(int thing) {
            if (thing >= things || thing >= MOST_THINGS) {
                keepTrial();
                return;
            }
            int size = table.size(thing);
            for (int x = -size; x <= size; x++) {
                if (isPossible(thing, x + size)) {
                    trial[thing] = x;
                    if (goesUpTo(thing)) {
                        extend(thing + 1);
                    }
                }
            }
        }

        private boolean isPossible(int thing, int place) {
            int spot = starts[thing] + place;
            return spot >= 0 && spot < MOST_TRIALS && possible[spot];
        }

        /** Whether all products of things up to this one, that give none behind it, go with the trial. */
        private boolean goesUpTo(int thing) {
            for (int i = 0; i <= thing; i++) {
                for (int j = i; j <= thing; j++) {
                    if (givesNoneBehind(i, j, thing) && !goes(i, j, thing)) {
                        return false;
                    }
                }
            }
            return true;
        }

        private boolean givesNoneBehind(int i, int j, int thing) {
            for (int k = thing + 1; k < things; k++) {
                if (table.share(i, j, k) != 0) {
                    return false;
                }
            }
            return true;
        }

        private boolean goes(int i, int j, int thing) {
            long together = 0;
            for (int k = 0; k <= thing; k++) {
                together += (long) table.share(i, j, k) * trial[k];
            }
            return (long) trial[i] * trial[j] == together;
        }

        private void keepTrial() {
            if (found >= MOST_THINGS) {
                return;
            }
            for (int i = 0; i < things; i++) {
                numbers[found * MOST_THINGS + i] = trial[i];
            }
            found++;
        }

        private void countAll() {
            split = found == things;
            for (int row = 0; row < found; row++) {
                long up = table.allSizes() * common;
                long down = 0;
                for (int i = 0; i < things; i++) {
                    down += (long) number(row, i) * number(row, table.reverse(i)) * commonBySize[i];
                }
                long divisor = commonDivisor(up, down);
                above[row] = lowered(up, divisor);
                below[row] = lowered(down, divisor);
                if (below[row] != 1) {
                    split = false;
                }
            }
        }

        private long dualUp(int a, int b, int c) {
            long sum = 0;
            for (int i = 0; i < things; i++) {
                long product = (long) number(a, i) * number(b, i) * number(c, table.reverse(i));
                sum += product * commonBySize[i] * commonBySize[i];
            }
            return countAbove(a) * countAbove(b) * sum;
        }

        private static long lowered(long number, long divisor) {
            return divisor > 0 ? number / divisor : number;
        }

        private static long commonDivisor(long a, long b) {
            long more = Math.abs(a);
            long less = Math.abs(b);
            for (int step = 0; step < 200 && less != 0; step++) {
                long rest = more % less;
                more = less;
                less = rest;
            }
            return more;
        }
    }

    /** The PARTS of a GOOD TABLE, as bits, and the PARTITIONS by which it can be FUSED, four bits a thing. */
    private static final class Groupings {
        private static final int MOST_PARTS = 32;
        /** So many PARTITIONS five things have beside 0. */
        private static final int MOST_PARTITIONS = 52;

        private final Table table;
        private final int things;
        private final int[] parts = new int[MOST_PARTS];
        private final int[] partitions = new int[MOST_PARTITIONS];
        private final int[] trial = new int[MOST_THINGS];
        private final int[] leasts = new int[MOST_THINGS];
        private int partCount = 0;
        private int partitionCount = NONE;

        Groupings(Table table) {
            this.table = table;
            this.things = table.things();
            // each PART holds 0, so its bits are odd
            for (int bits = 1; bits < 1 << things; bits += 2) {
                if (partCount < MOST_PARTS && isClosed(bits)) {
                    parts[partCount] = bits;
                    partCount++;
                }
            }
        }

        int partCount() {
            return partCount;
        }

        int bitsOfPart(int i) {
            return i >= 0 && i < partCount ? parts[i] : NONE;
        }

        int partitionCount() {
            if (partitionCount == NONE) {
                partitionCount = 0;
                extend(1, 0);
            }
            return partitionCount;
        }

        boolean hasPartition(int i) {
            return i >= 0 && i < partitionCount();
        }

        int classOf(int i, int thing) {
            boolean isThere = i >= 0 && i < partitionCount && table.has(thing);
            return isThere ? partitions[i] >> (4 * thing) & 15 : NONE;
        }

        private boolean isClosed(int bits) {
            for (int i = 0; i < things; i++) {
                for (int j = 0; j <= i; j++) {
                    if (((bits >> i) & (bits >> j) & 1) == 1 && !staysIn(bits, i, j)) {
                        return false;
                    }
                }
            }
            return true;
        }

        private boolean staysIn(int bits, int i, int j) {
            for (int k = 0; k < things; k++) {
                if ((bits >> k & 1) == 0 && table.share(i, j, k) != 0) {
                    return false;
                }
            }
            return true;
        }

        private void extend(int thing, int greatest) {
            if (thing >= things || thing >= MOST_THINGS) {
                if (reversesAreClasses() && sharesAreEven(greatest + 1)) {
                    keepTrial();
                }
                return;
            }
            for (int next = 1; next <= greatest + 1; next++) {
                trial[thing] = next;
                extend(thing + 1, Math.max(greatest, next));
            }
        }

        private void keepTrial() {
            if (partitionCount < 0 || partitionCount >= MOST_PARTITIONS) {
                return;
            }
            int held = 0;
            for (int i = 0; i < things; i++) {
                held |= trial[i] << (4 * i);
            }
            partitions[partitionCount] = held;
            partitionCount++;
        }

        private boolean reversesAreClasses() {
            for (int i = 0; i < things; i++) {
                for (int j = 0; j < i; j++) {
                    if (trial[i] == trial[j] && trial[table.reverse(i)] != trial[table.reverse(j)]) {
                        return false;
                    }
                }
            }
            return true;
        }

        private boolean sharesAreEven(int classes) {
            Maker.findLeasts(trial, things, leasts);
            for (int k = 0; k < things; k++) {
                int own = trial[k];
                int least = own >= 0 && own < MOST_THINGS ? leasts[own] : k;
                for (int a = 0; a < classes && least != k; a++) {
                    for (int b = 0; b <= a; b++) {
                        if (Maker.together(table, trial, a, b, k) != Maker.together(table, trial, a, b, least)) {
                            return false;
                        }
                    }
                }
            }
            return true;
        }
    }

    /** Makes TABLES of others; null: REFUSED. */
    private static final class Maker {
        static Table dividedBy(Table table, int part) {
            int[] classOf = new int[MOST_THINGS];
            int placed = 0;
            int classes = 0;
            for (int i = 0; i < table.things(); i++) {
                if ((placed >> i & 1) == 0) {
                    int reached = (reachedFrom(table, i, part) & ~placed) | 1 << i;
                    for (int k = 0; k < table.things(); k++) {
                        if ((reached >> k & 1) == 1) {
                            classOf[k] = classes;
                        }
                    }
                    placed |= reached;
                    classes++;
                }
            }
            return gathered(table, classOf, classes, orderOf(table, part));
        }

        static Table fusedBy(Table table, Groupings groupings, int i) {
            int[] classOf = new int[MOST_THINGS];
            int greatest = 0;
            for (int thing = 0; thing < table.things(); thing++) {
                classOf[thing] = Math.max(0, groupings.classOf(i, thing));
                greatest = Math.max(greatest, classOf[thing]);
            }
            return gathered(table, classOf, greatest + 1, 1);
        }

        static Table wreathed(Table inner, Table outer) {
            int own = inner.things();
            int all = own + outer.things() - 1;
            if (all > MOST_THINGS || inner.brokenLaw() != 0 || outer.brokenLaw() != 0) {
                return null;
            }
            Table made = new Table(all);
            for (int i = 0; i < all; i++) {
                made.putReverse(i, i < own ? inner.reverse(i) : outer.reverse(i - own + 1) + own - 1);
                for (int j = 0; j < all; j++) {
                    for (int k = 0; k < all; k++) {
                        long share = wreathShare(inner, outer, i, j, k);
                        if (share > MOST_OF_A_SHARE) {
                            return null;
                        }
                        made.put(i, j, k, (int) share);
                    }
                }
            }
            return made;
        }

        private static long wreathShare(Table inner, Table outer, int i, int j, int k) {
            int own = inner.things();
            if (i < own && j < own) {
                return k < own ? inner.share(i, j, k) : 0;
            }
            if (i < own) {
                return j == k ? inner.size(i) : 0;
            }
            if (j < own) {
                return i == k ? inner.size(j) : 0;
            }
            int of = k < own ? 0 : k - own + 1;
            return (long) outer.share(i - own + 1, j - own + 1, of) * inner.allSizes();
        }

        /** Writes each class's least thing. */
        static void findLeasts(int[] classOf, int things, int[] leasts) {
            for (int i = things - 1; i >= 0; i--) {
                int own = i < classOf.length ? classOf[i] : NONE;
                if (own >= 0 && own < leasts.length) {
                    leasts[own] = i;
                }
            }
        }

        /** What the things of two classes give of a thing, all together. */
        static long together(Table table, int[] classOf, int a, int b, int k) {
            long sum = 0;
            int things = Math.min(table.things(), classOf.length);
            for (int i = 0; i < things; i++) {
                for (int j = 0; classOf[i] == a && j < things; j++) {
                    if (classOf[j] == b) {
                        sum += table.share(i, j, k);
                    }
                }
            }
            return sum;
        }

        private static Table gathered(Table table, int[] classOf, int classes, long by) {
            if (by < 1 || classes < 1 || classes > MOST_THINGS) {
                return null;
            }
            if (by == 1 && classes == table.things()) {
                // each thing is a class of its own, and a TABLE never changes
                return table;
            }
            int[] leasts = new int[MOST_THINGS];
            findLeasts(classOf, table.things(), leasts);
            Table made = new Table(classes);
            for (int a = 0; a < classes; a++) {
                made.putReverse(a, classOf[table.reverse(leasts[a])]);
                for (int b = 0; b < classes; b++) {
                    for (int c = 0; c < classes; c++) {
                        long sum = together(table, classOf, a, b, leasts[c]);
                        if (sum % by != 0 || sum / by > MOST_OF_A_SHARE) {
                            return null;
                        }
                        made.put(a, b, c, (int) (sum / by));
                    }
                }
            }
            return made;
        }

        private static int reachedFrom(Table table, int i, int part) {
            int reached = 0;
            for (int h = 0; h < table.things(); h++) {
                for (int k = 0; k < table.things(); k++) {
                    if ((part >> h & 1) == 1 && table.share(i, h, k) != 0) {
                        reached |= 1 << k;
                    }
                }
            }
            return reached;
        }

        private static long orderOf(Table table, int part) {
            long sum = 0;
            for (int i = 0; i < table.things(); i++) {
                if ((part >> i & 1) == 1) {
                    sum += table.size(i);
                }
            }
            return sum;
        }
    }

    /** Sifts KINDS of three things. */
    private static final class KindSieve {
        private static final int LEAST_POINTS = 4;
        private static final int MOST_POINTS_OF_KINDS = 100;
        /** D is 10,000 and a few at most. */
        private static final int MOST_ROOT = 128;

        static boolean fitsPoints(int v) {
            return v >= LEAST_POINTS && v <= MOST_POINTS_OF_KINDS;
        }

        static boolean fits(int v, int k, int l, int m) {
            return fitsPoints(v) && k >= 1 && k <= v - 2 && l >= 0 && l <= k && m >= 0 && m <= k;
        }

        static int reasonOf(int v, int k, int l, int m) {
            if (k * (k - l - 1) != (v - k - 1) * m) {
                return 1;
            }
            int gap = l - m;
            int tilt = 2 * k + (v - 1) * gap;
            int s = rootOf(gap * gap + 4 * (k - m));
            if (s == NONE) {
                return tilt != 0 ? 2 : 0;
            }
            if (s == 0) {
                return 4;
            }
            if (tilt % s != 0 || (tilt / s + v - 1) % 2 != 0) {
                return 3;
            }
            int r = (gap + s) / 2;
            int t = (gap - s) / 2;
            return isBounded(k, r, t) && isBounded(k, t, r) ? 0 : 5;
        }

        static int howMany(int v, int reason) {
            int all = 0;
            int sifted = 0;
            int asked = 0;
            for (int k = 1; k <= v - 2; k++) {
                all += (k + 1) * (k + 1);
                for (int l = 0; l <= k; l++) {
                    int m = balancing(v, k, l);
                    if (m != NONE) {
                        sifted++;
                        asked += reasonOf(v, k, l, m) == reason ? 1 : 0;
                    }
                }
            }
            return reason == 1 ? all - sifted : asked;
        }

        static int keptAt(int v, int i) {
            int ahead = 0;
            for (int k = 1; k <= v - 2; k++) {
                for (int l = 0; l <= k; l++) {
                    int m = balancing(v, k, l);
                    if (m != NONE && reasonOf(v, k, l, m) == 0) {
                        if (ahead == i) {
                            return k * 10000 + l * 100 + m;
                        }
                        ahead++;
                    }
                }
            }
            return NONE;
        }

        /** The one m that is not LEFT OUT for reason 1, or NONE. */
        private static int balancing(int v, int k, int l) {
            int product = k * (k - l - 1);
            int others = v - k - 1;
            if (others < 1 || product < 0 || product % others != 0) {
                return NONE;
            }
            int m = product / others;
            return m <= k ? m : NONE;
        }

        private static int rootOf(int d) {
            for (int s = 0; s <= MOST_ROOT && s * s <= d; s++) {
                if (s * s == d) {
                    return s;
                }
            }
            return NONE;
        }

        private static boolean isBounded(int k, int r, int t) {
            return (r + 1) * (k + r + 2 * r * t) <= (k + r) * (t + 1) * (t + 1);
        }
    }

    /** The TAPE, read token by token; after the first FAULT nothing moves any more. */
    private static final class Tokens {
        private static final int WRONG = 0;
        private static final int WORD = 1;
        private static final int NUMBER = 2;
        private static final int SIGN = 3;
        private static final int END = 4;
        private static final int MOST_LETTERS = 8;
        private static final int MOST_DIGITS = 4;
        private static final String SIGNS = "()<=+-*;";

        private final char[] signs = new char[MOST_SIGNS];
        private int length = 0;
        private int sort = END;
        private int place = 0;
        private int behind = 0;
        private int fault = 0;

        void addBytes(long bytes) {
            for (int shift = 56; shift >= 0; shift -= 8) {
                int sign = (int) (bytes >> shift & 255);
                boolean isSign = sign == 10 || sign >= 32 && sign <= 126;
                if (isSign && length < MOST_SIGNS) {
                    signs[length] = (char) sign;
                    length++;
                }
            }
        }

        int length() {
            return length;
        }

        void clear() {
            length = 0;
        }

        int fault() {
            return fault;
        }

        boolean isFine() {
            return fault == 0;
        }

        void fail(int kind) {
            if (fault == 0) {
                fault = kind + 16 * place;
            }
        }

        void start() {
            fault = 0;
            behind = 0;
            advance();
        }

        void advance() {
            if (fault != 0) {
                return;
            }
            while (behind < length && (signs[behind] == 10 || signs[behind] == 32)) {
                behind++;
            }
            place = behind;
            char sign = place < length ? signs[place] : 0;
            if (place >= length) {
                sort = END;
            } else if (sign >= 'a' && sign <= 'z') {
                takeRun('a', 'z');
                sort = behind - place <= MOST_LETTERS ? WORD : WRONG;
            } else if (sign >= '0' && sign <= '9') {
                takeRun('0', '9');
                sort = behind - place <= MOST_DIGITS ? NUMBER : WRONG;
            } else {
                sort = SIGNS.indexOf(sign) >= 0 ? SIGN : WRONG;
                behind++;
            }
        }

        private void takeRun(char first, char last) {
            while (behind < length && signs[behind] >= first && signs[behind] <= last) {
                behind++;
            }
        }

        boolean isEnd() {
            return sort == END;
        }

        boolean isNumber() {
            return sort == NUMBER;
        }

        boolean isSign(char sign) {
            return sort == SIGN && place < length && signs[place] == sign;
        }

        boolean isWord(String word) {
            if (sort != WORD || behind - place != word.length() || behind > length) {
                return false;
            }
            for (int i = 0; i < word.length(); i++) {
                if (signs[place + i] != word.charAt(i)) {
                    return false;
                }
            }
            return true;
        }

        void takeWord(String word) {
            if (!isWord(word)) {
                fail(CANT_STAND);
            }
            advance();
        }

        void takeSign(char sign) {
            if (!isSign(sign)) {
                fail(CANT_STAND);
            }
            advance();
        }

        void takeEnd() {
            if (!isEnd()) {
                fail(CANT_STAND);
            }
        }

        /** Looks at a NUMBER without going on, so that more can be found wrong at it. */
        int seeNumber(int least, int most) {
            if (sort != NUMBER) {
                fail(CANT_STAND);
                return NONE;
            }
            int number = numberHere();
            if (number < least || number > most) {
                fail(NOT_AS_TOLD);
            }
            return number;
        }

        private int numberHere() {
            int number = 0;
            for (int i = place; i < behind && i < length; i++) {
                number = number * 10 + (signs[i] - '0');
            }
            return number;
        }
    }

    /** Reads the TAPE as a TABLE. */
    private static final class TableReader {
        private static final int MOST_TOLD = 999;

        private final Tokens tokens;
        private final boolean[] told = new boolean[MOST_PAIRS];
        private int reversed = 0;
        private int last = 0;

        TableReader(Tokens tokens) {
            this.tokens = tokens;
        }

        /** null: there is a FAULT. */
        Table read() {
            tokens.start();
            tokens.takeWord("things");
            int things = tokens.seeNumber(1, MOST_THINGS);
            tokens.advance();
            tokens.takeSign(';');
            if (!tokens.isFine()) {
                return null;
            }
            forget();
            last = things - 1;
            Table made = Table.withUnit(things);
            for (int line = 0; line < MOST_SIGNS && tokens.isFine() && !tokens.isEnd(); line++) {
                if (tokens.isWord("times")) {
                    readTimes(made);
                } else if (tokens.isWord("reverse")) {
                    readReverse(made);
                } else {
                    tokens.fail(CANT_STAND);
                }
            }
            return tokens.isFine() ? made : null;
        }

        private void forget() {
            reversed = 0;
            for (int i = 0; i < MOST_PAIRS; i++) {
                told[i] = false;
            }
        }

        private void readTimes(Table made) {
            tokens.advance();
            int i = tokens.seeNumber(1, last);
            tokens.advance();
            int j = tokens.seeNumber(1, last);
            if (!tokens.isFine()) {
                return;
            }
            if (isTold(i, j)) {
                tokens.fail(TOLD_ALREADY);
            }
            tell(i, j);
            tell(j, i);
            tokens.advance();
            tokens.takeWord("gives");
            readShares(made, i, j);
            tokens.takeSign(';');
        }

        private boolean isTold(int i, int j) {
            int spot = i * MOST_THINGS + j;
            return spot >= 0 && spot < MOST_PAIRS && told[spot];
        }

        private void tell(int i, int j) {
            int spot = i * MOST_THINGS + j;
            if (spot >= 0 && spot < MOST_PAIRS) {
                told[spot] = true;
            }
        }

        private void readShares(Table made, int i, int j) {
            int toldHere = 0;
            for (int n = 0; n < MOST_SIGNS && tokens.isFine() && tokens.isNumber(); n++) {
                int share = tokens.seeNumber(1, MOST_TOLD);
                tokens.advance();
                tokens.takeWord("of");
                int k = tokens.seeNumber(0, last);
                if (tokens.isFine() && (toldHere >> k & 1) == 1) {
                    tokens.fail(TOLD_ALREADY);
                }
                if (tokens.isFine()) {
                    toldHere |= 1 << k;
                    made.putBothWays(i, j, k, share);
                }
                tokens.advance();
            }
        }

        private void readReverse(Table made) {
            tokens.advance();
            int i = tokens.seeNumber(1, last);
            if (tokens.isFine() && (reversed >> i & 1) == 1) {
                tokens.fail(TOLD_ALREADY);
            }
            tokens.advance();
            int j = tokens.seeNumber(1, last);
            if (tokens.isFine() && (j == i || (reversed >> j & 1) == 1)) {
                tokens.fail(TOLD_ALREADY);
            }
            if (tokens.isFine()) {
                reversed |= 1 << i | 1 << j;
                made.putReverse(i, j);
                made.putReverse(j, i);
            }
            tokens.advance();
            tokens.takeSign(';');
        }
    }

    /** Reads the TAPE as a SCHEME: its points and the formula of their COLOURS. */
    private static final class SchemeReader {
        private static final int MOST_DEPTH = 5;
        private static final int MOST_NUMBER = 9999;

        private final Tokens tokens;
        private final Formula formula = new Formula();
        private final Colouring colouring = new Colouring();
        private int points = 0;

        SchemeReader(Tokens tokens) {
            this.tokens = tokens;
        }

        /** false: there is a FAULT. */
        boolean read() {
            formula.clear();
            tokens.start();
            tokens.takeWord("points");
            points = tokens.seeNumber(1, MOST_POINTS);
            tokens.advance();
            tokens.takeWord("colour");
            readExpression(0);
            tokens.takeSign(';');
            tokens.takeEnd();
            return tokens.isFine();
        }

        Colouring coloured() {
            colouring.begin(points);
            for (int x = 0; x < points; x++) {
                for (int y = 0; y < points; y++) {
                    colouring.paint(x, y, formula.valueAt(x, y, points));
                }
            }
            return colouring;
        }

        private void readExpression(int depth) {
            readTest(depth);
            for (int n = 0; n < MOST_SIGNS && tokens.isFine(); n++) {
                int step = tokens.isWord("and") ? Formula.AND : tokens.isWord("or") ? Formula.OR : NONE;
                if (step == NONE) {
                    return;
                }
                tokens.advance();
                readTest(depth);
                formula.add(step, 0);
            }
        }

        private void readTest(int depth) {
            readSum(depth);
            int step = tokens.isSign('<') ? Formula.BELOW : tokens.isSign('=') ? Formula.EQUAL : NONE;
            if (step == NONE || !tokens.isFine()) {
                return;
            }
            tokens.advance();
            readSum(depth);
            formula.add(step, 0);
        }

        private void readSum(int depth) {
            readProduct(depth);
            for (int n = 0; n < MOST_SIGNS && tokens.isFine(); n++) {
                int step = tokens.isSign('+') ? Formula.PLUS : tokens.isSign('-') ? Formula.LESS : NONE;
                if (step == NONE) {
                    return;
                }
                tokens.advance();
                readProduct(depth);
                formula.add(step, 0);
            }
        }

        private void readProduct(int depth) {
            readPart(depth);
            for (int n = 0; n < MOST_SIGNS && tokens.isFine() && tokens.isSign('*'); n++) {
                tokens.advance();
                readPart(depth);
                formula.add(Formula.TIMES, 0);
            }
        }

        private void readPart(int depth) {
            int fact = factHere();
            boolean isNot = tokens.isWord("not");
            boolean opens = tokens.isSign('(');
            if (fact == NONE && !isNot && !opens && !tokens.isNumber()) {
                tokens.fail(CANT_STAND);
            } else if (depth >= MOST_DEPTH) {
                tokens.fail(TOO_DEEP);
            }
            if (!tokens.isFine()) {
                return;
            }
            if (isNot) {
                tokens.advance();
                readPart(depth + 1);
                formula.add(Formula.NOT, 0);
            } else if (opens) {
                tokens.advance();
                readExpression(depth + 1);
                tokens.takeSign(')');
            } else {
                formula.add(fact == NONE ? Formula.NUMBER : fact, fact == NONE ? tokens.seeNumber(0, MOST_NUMBER) : 0);
                tokens.advance();
            }
        }

        private int factHere() {
            if (tokens.isWord("x")) {
                return Formula.X;
            }
            if (tokens.isWord("y")) {
                return Formula.Y;
            }
            if (tokens.isWord("far")) {
                return Formula.FAR;
            }
            if (tokens.isWord("ring")) {
                return Formula.RING;
            }
            return tokens.isWord("same") ? Formula.SAME : NONE;
        }
    }

    /** The formula of a SCHEME, its steps in the order in which they are reckoned. */
    private static final class Formula {
        static final int NUMBER = 0;
        static final int X = 1;
        static final int Y = 2;
        static final int FAR = 3;
        static final int RING = 4;
        static final int SAME = 5;
        static final int NOT = 6;
        static final int AND = 7;
        static final int OR = 8;
        static final int BELOW = 9;
        static final int EQUAL = 10;
        static final int PLUS = 11;
        static final int LESS = 12;
        static final int TIMES = 13;
        /** Four values wait at each of five depths, at most. */
        private static final int MOST_WAITING = 64;

        private final int[] steps = new int[MOST_SIGNS];
        private final int[] numbers = new int[MOST_SIGNS];
        private final int[] waiting = new int[MOST_WAITING];
        private int length = 0;

        void clear() {
            length = 0;
        }

        void add(int step, int number) {
            if (length < MOST_SIGNS) {
                steps[length] = step;
                numbers[length] = number;
                length++;
            }
        }

        int valueAt(int x, int y, int points) {
            int top = 0;
            for (int n = 0; n < length; n++) {
                int step = steps[n];
                if (step <= SAME) {
                    if (top < MOST_WAITING) {
                        waiting[top] = step == NUMBER ? numbers[n] : fact(step, x, y, points);
                        top++;
                    }
                } else if (step == NOT) {
                    if (top >= 1) {
                        waiting[top - 1] = truth(waiting[top - 1] == 0);
                    }
                } else if (top >= 2) {
                    waiting[top - 2] = joined(step, waiting[top - 2], waiting[top - 1]);
                    top--;
                }
            }
            return waiting[0];
        }

        private static int fact(int step, int x, int y, int points) {
            int far = Math.abs(y - x);
            switch (step) {
                case X:
                    return x;
                case Y:
                    return y;
                case FAR:
                    return far;
                case RING:
                    return Math.min(far, points - far);
                default:
                    return truth(x == y);
            }
        }

        private static int joined(int step, int left, int right) {
            switch (step) {
                case AND:
                    return truth(left != 0 && right != 0);
                case OR:
                    return truth(left != 0 || right != 0);
                case BELOW:
                    return truth(left < right);
                case EQUAL:
                    return truth(left == right);
                case PLUS:
                    return left + right;
                case LESS:
                    return left - right;
                default:
                    return left * right;
            }
        }

        private static int truth(boolean so) {
            return so ? 1 : 0;
        }
    }

    /** Points whose pairs are coloured, and whether their COLOURS are as wanted. */
    private static final class Colouring {
        private final int[] colours = new int[MOST_POINTS * MOST_POINTS];
        private final int[] turned = new int[MOST_THINGS];
        private final int[] tally = new int[MOST_PAIRS];
        private int points = 0;
        private Table made = null;

        void begin(int points) {
            this.points = Math.max(0, Math.min(points, MOST_POINTS));
            made = null;
        }

        void paint(int x, int y, int colour) {
            if (x >= 0 && x < MOST_POINTS && y >= 0 && y < MOST_POINTS) {
                colours[x * MOST_POINTS + y] = colour;
            }
        }

        /** The TABLE that the COLOURS make, null if they are not as wanted. */
        Table made() {
            return made;
        }

        int findWhy() {
            int things = countColours();
            if (things == NONE) {
                return 1;
            }
            if (!zeroIsSame()) {
                return 2;
            }
            if (!turnsAlike()) {
                return 3;
            }
            Table table = new Table(things);
            if (!countsAlike(table)) {
                return 4;
            }
            if (!isEvenBothWays(table)) {
                return 5;
            }
            for (int i = 0; i < things && i < MOST_THINGS; i++) {
                table.putReverse(i, turned[i]);
            }
            made = table;
            return 0;
        }

        private int colour(int x, int y) {
            return colours[x * MOST_POINTS + y];
        }

        /** How many COLOURS there are; NONE: one is out of bounds, or missing below the greatest. */
        private int countColours() {
            int seen = 0;
            for (int x = 0; x < points; x++) {
                for (int y = 0; y < points; y++) {
                    int colour = colour(x, y);
                    if (colour < 0 || colour >= MOST_THINGS) {
                        return NONE;
                    }
                    seen |= 1 << colour;
                }
            }
            return (seen & (seen + 1)) == 0 ? Integer.bitCount(seen) : NONE;
        }

        private boolean zeroIsSame() {
            for (int x = 0; x < points; x++) {
                for (int y = 0; y < points; y++) {
                    if ((colour(x, y) == 0) != (x == y)) {
                        return false;
                    }
                }
            }
            return true;
        }

        private boolean turnsAlike() {
            for (int i = 0; i < MOST_THINGS; i++) {
                turned[i] = NONE;
            }
            for (int x = 0; x < points; x++) {
                for (int y = 0; y < points; y++) {
                    int own = colour(x, y);
                    if (turned[own] == NONE) {
                        turned[own] = colour(y, x);
                    } else if (turned[own] != colour(y, x)) {
                        return false;
                    }
                }
            }
            return true;
        }

        private boolean countsAlike(Table table) {
            int counted = 0;
            for (int x = 0; x < points; x++) {
                for (int y = 0; y < points; y++) {
                    int own = colour(x, y);
                    tallyBetween(x, y);
                    if ((counted >> own & 1) == 0) {
                        putTally(table, own);
                        counted |= 1 << own;
                    } else if (!isTally(table, own)) {
                        return false;
                    }
                }
            }
            return true;
        }

        private void tallyBetween(int x, int y) {
            for (int i = 0; i < MOST_PAIRS; i++) {
                tally[i] = 0;
            }
            for (int z = 0; z < points; z++) {
                tally[colour(x, z) * MOST_THINGS + colour(z, y)]++;
            }
        }

        private void putTally(Table table, int of) {
            for (int i = 0; i < MOST_THINGS; i++) {
                for (int j = 0; j < MOST_THINGS; j++) {
                    table.put(i, j, of, tally[i * MOST_THINGS + j]);
                }
            }
        }

        private boolean isTally(Table table, int of) {
            for (int i = 0; i < MOST_THINGS; i++) {
                for (int j = 0; j < MOST_THINGS; j++) {
                    if (table.share(i, j, of) != tally[i * MOST_THINGS + j]) {
                        return false;
                    }
                }
            }
            return true;
        }

        private static boolean isEvenBothWays(Table table) {
            for (int i = 0; i < table.things(); i++) {
                for (int j = 0; j < i; j++) {
                    for (int k = 0; k < table.things(); k++) {
                        if (table.share(i, j, k) != table.share(j, i, k)) {
                            return false;
                        }
                    }
                }
            }
            return true;
        }
    }
}
