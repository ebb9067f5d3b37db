/** The bounds of LAWS, SMALL, ROWS, COUNTS, SPLIT, DUAL numbers, TWIN and WALKS, each on both sides. */
final class LawBoundsTest {
    private static final int NONE = ShareTable.NONE;
    private static final long THROWS = Told.THROWS;
    private static final int[] FAR_OFF = {6, 7, 36, 216, 1 << 30, Integer.MAX_VALUE, -2, -6, Integer.MIN_VALUE};

    /** The ring of four: SPLIT, three things. */
    private static final String SPLIT = "points 4 colour ring;";
    /** Three ROWS of three things, but COUNTS of 5 by 2 and 3 by 2. */
    private static final String HALVES = "things 3; times 1 1 gives 1 of 0; times 1 2 gives 1 of 2; times 2 2 gives 3 of 0 3 of 1 1 of 2;";
    /** All COUNTS are whole, but there is one ROW of three things. */
    private static final String ONE_ROW = "points 3 colour y - x + 3 * (y < x);";
    /** SPLIT; a DUAL number is -4 by 9. */
    private static final String NINTHS =
        "things 3; times 1 1 gives 9 of 0 4 of 2; times 1 2 gives 8 of 1 5 of 2; times 2 2 gives 18 of 0 10 of 1 12 of 2;";

    public static void main(String[] args) {
        sizes();
        giveArguments();
        thingArguments();
        eachLaw();
        lawsInOrder();
        lawArguments();
        goodAtTheEdge();
        smallUpToSixty();
        notSmall();
        notGood();
        rowArguments();
        rowsInOrder();
        countsInLowestTerms();
        splitOrNot();
        dualArguments();
        dualNumbers();
        greatestDuals();
        twinOrNot();
        stepsUpToTen();
        mixedWithinTen();
        Check.end("LawBoundsTest");
    }

    /** "SIZE of a thing: how many 0 it gives with its REVERSE. ORDER: all SIZES together", of any TABLE. */
    private static void sizes() {
        ShareTable x = Told.ofTable("things 6;");
        Check.due("no sizes but that of 0", x.order(), 1);
        Check.due("size of none", x.thing(5, 1), 0);
        x = Told.ofTable("things 4; times 1 1 gives 5 of 0; times 1 2 gives 7 of 0; times 2 2 gives 9 of 0; times 3 3 gives 999 of 0; reverse 1 2;");
        int[] due = {1, 7, 7, 999};
        for (int i = 0; i < 4; i++) {
            Check.due("size of " + i, x.thing(i, 1), due[i]);
        }
        Check.due("order", x.order(), 1014);
        StringBuilder most = new StringBuilder("things 6;");
        for (int i = 1; i < 6; i++) {
            most.append("times ").append(i).append(' ').append(i).append(" gives 999 of 0;");
        }
        Check.due("the most that can be told", Told.ofTable(most.toString()).order(), 4996);
    }

    /** "How many of a thing two give; NONE: others". */
    private static void giveArguments() {
        ShareTable x = Told.ofTable(NINTHS);
        for (int i = -1; i <= 3; i++) {
            for (int j = -1; j <= 3; j++) {
                for (int k = -1; k <= 3; k++) {
                    boolean fits = i >= 0 && i < 3 && j >= 0 && j < 3 && k >= 0 && k < 3;
                    Check.due("gives " + i + " " + j + " " + k, x.gives(i, j, k) != NONE, fits);
                }
            }
        }
        for (int far : FAR_OFF) {
            Check.due("i " + far, x.gives(far, 0, 0), NONE);
            Check.due("j " + far, x.gives(0, far, 0), NONE);
            Check.due("k " + far, x.gives(0, 0, far), NONE);
        }
    }

    /** "Of a thing, what 0: its REVERSE, 1: its SIZE; NONE: others". */
    private static void thingArguments() {
        for (int n = 1; n <= 6; n++) {
            ShareTable x = Told.ofTable("things " + n + ";");
            Check.due("the last of " + n, x.thing(n - 1, 0), n - 1);
            Check.due("behind the last of " + n, x.thing(n, 0), NONE);
            Check.due("size behind the last of " + n, x.thing(n, 1), NONE);
            Check.due("ahead of the first of " + n, x.thing(-1, 0), NONE);
            Check.due("what -1", x.thing(0, -1), NONE);
            Check.due("what 2", x.thing(0, 2), NONE);
        }
        ShareTable x = Told.ofTable("things 6;");
        for (int far : FAR_OFF) {
            Check.due("thing " + far, x.thing(far, 0), NONE);
            Check.due("size " + far, x.thing(far, 1), NONE);
            Check.due("what " + far, x.thing(0, far), NONE);
        }
    }

    private static void law(String text, int law, int i, int j, int k) {
        ShareTable x = Told.ofTable(text);
        Check.due("law of " + text, x.law(0), law);
        Check.due("I of " + text, x.law(1), i);
        Check.due("J of " + text, x.law(2), j);
        Check.due("K of " + text, x.law(3), k);
    }

    /** Each LAW as it is broken first, and the like TABLE that keeps it. */
    private static void eachLaw() {
        String four = "things 3; times 1 1 gives 1 of 0; times 1 2 gives 1 of 2; times 2 2 gives ";
        law(four + "2 of 0 2 of 1;", 0, NONE, NONE, NONE);
        law(four + "2 of 0;", 1, 1, 2, 2);
        law(four + "2 of 0 1 of 1;", 1, 1, 2, 2);
        law(four + ";", 2, 2, 2, 0);
        law(four + "2 of 0 2 of 1; reverse 1 2;", 2, 1, 1, 0);
        law(four + "3 of 0 3 of 1 1 of 2;", 0, NONE, NONE, NONE);
        law(four + "3 of 0 3 of 1 2 of 2;", 4, 2, 2, 0);
        law(four + "3 of 0 3 of 1;", 4, 2, 2, 0);
        String three = "things 3; times 1 1 gives 1 of 2; times 2 2 gives 1 of 1; times 1 2 gives 1 of 0;";
        law(three + "reverse 1 2;", 0, NONE, NONE, NONE);
        law(three, 2, 1, 1, 0);
        law("things 3; times 1 1 gives 1 of 1 1 of 2; times 2 2 gives 1 of 1; times 1 2 gives 1 of 0 1 of 2; reverse 1 2;", 3, 1, 1, 1);
        // 1 and 1, then 2, give one 0 more than 1 with what 1 and 2 give, and no other thing more
        law("things 3; times 1 1 gives 1 of 2; times 2 2 gives 1 of 0;", 1, 1, 1, 2);
        law("things 2; times 1 1 gives 1 of 0;", 0, NONE, NONE, NONE);
        law("things 2; times 1 1 gives 2 of 0;", 4, 1, 1, 0);
        law("things 2;", 2, 1, 1, 0);
        law("things 1;", 0, NONE, NONE, NONE);
    }

    /** "in this order, each by its first I, J, K": the first LAW is told though another is broken by things ahead. */
    private static void lawsInOrder() {
        // 1 gives no 0 with itself, which law 2 wants; law 1 is broken only behind it
        law("things 4; times 2 2 gives 1 of 3; times 2 3 gives 1 of 0; times 3 3 gives 1 of 3;", 1, 1, 2, 3);
        law("things 3; times 1 1 gives 1 of 2; times 1 2 gives 1 of 1; times 2 2 gives 1 of 0;", 1, 1, 1, 2);
        // laws 3 and 4 are broken by 1 and 1, law 2 by 1 and 2
        law("things 3; times 1 1 gives 1 of 2; reverse 1 2;", 2, 1, 2, 0);
        // law 4 is broken by 1 and 1, too
        law("things 3; times 1 1 gives 1 of 1 1 of 2; times 2 2 gives 1 of 1; times 1 2 gives 1 of 0 1 of 2; reverse 1 2;", 3, 1, 1, 1);
    }

    /** "NONE: others, GOOD (1 to 3)". */
    private static void lawArguments() {
        ShareTable good = new ShareTable();
        ShareTable broken = Told.ofTable("things 2;");
        for (int what : new int[] {-1, 4, 5, -1 << 31, Integer.MAX_VALUE}) {
            Check.due("good, what " + what, good.law(what), NONE);
            Check.due("broken, what " + what, broken.law(what), NONE);
        }
        for (int what = 1; what <= 3; what++) {
            Check.due("good, what " + what, good.law(what), NONE);
            Check.due("broken, what " + what, broken.law(what) != NONE, true);
        }
    }

    /** LAW 4 at the greatest that can be told: 999 and 998. */
    private static void goodAtTheEdge() {
        law(Told.twoThings(999), 0, NONE, NONE, NONE);
        law("things 2; times 1 1 gives 999 of 0 999 of 1;", 4, 1, 1, 0);
        law("things 2; times 1 1 gives 999 of 0 997 of 1;", 4, 1, 1, 0);
        law(Told.twoThings(1), 0, NONE, NONE, NONE);
    }

    /** "SMALL if it is GOOD and its ORDER is 60 at most". */
    private static void smallUpToSixty() {
        for (int size = 58; size <= 61; size++) {
            ShareTable x = Told.ofTable(Told.twoThings(size));
            boolean small = size + 1 <= 60;
            Check.due("order", x.order(), size + 1);
            Check.due("good", x.law(0), 0);
            Check.due("rows of " + size, x.rows(), small ? 2 : NONE);
            Check.due("row of " + size, Told.row(x, 1, 1), small ? size : THROWS);
            Check.due("counts of " + size, x.counts(0, 0), small ? size : NONE);
            Check.due("below of " + size, x.counts(0, 1), small ? 1 : NONE);
            Check.due("dual of " + size, Told.dual(x, 0, 0, 1, 0), small ? size : THROWS);
            Check.due("twin of " + size, x.twin(), small ? 1 : NONE);
            Check.due("walks of " + size, x.walks(1, 2, 0), small ? size : NONE);
            Check.due("mixed of " + size, x.mixed(1), small ? 2 : NONE);
        }
        for (int size = 28; size <= 31; size++) {
            ShareTable x = Told.ofTable(Told.twoThings(size));
            x.mark(0, false);
            Told.table(x, Told.twoThings(1));
            Check.due("a wreath", x.wreath(0), 3);
            Check.due("order of a wreath", x.order(), 2 * (size + 1));
            Check.due("rows of a wreath of " + size, x.rows(), size <= 29 ? 3 : NONE);
        }
    }

    /** What wants SMALL is refused for a TABLE of ORDER 61, what wants GOOD is not. */
    private static void notSmall() {
        ShareTable x = Told.ofTable(Told.twoThings(60));
        Check.due("parts", x.parts(), 2);
        Check.due("part", x.part(1), 3);
        Check.due("fuses", x.fuses(), 1);
        Check.due("fusing", x.fusing(0, 1), 1);
        Check.due("fuse", x.fuse(0), 2);
        Check.due("quotient", x.quotient(1), 1);
        x.undo();
        x.mark(0, false);
        Check.due("wreath", x.wreath(0), 3);
    }

    /** Nothing but what any TABLE has is answered of one that is not GOOD. */
    private static void notGood() {
        ShareTable x = Told.ofTable("things 2;");
        Check.due("rows", x.rows(), NONE);
        Check.due("row", Told.row(x, 0, 0), THROWS);
        Check.due("counts", x.counts(0, 0), NONE);
        Check.due("dual", Told.dual(x, 0, 0, 0, 0), THROWS);
        Check.due("twin", x.twin(), NONE);
        Check.due("parts", x.parts(), NONE);
        Check.due("part", x.part(0), NONE);
        Check.due("quotient", x.quotient(0), NONE);
        Check.due("fuses", x.fuses(), NONE);
        Check.due("fusing", x.fusing(0, 0), NONE);
        Check.due("fuse", x.fuse(0), NONE);
        Check.due("walks", x.walks(0, 0, 0), NONE);
        Check.due("mixed", x.mixed(0), NONE);
        Check.due("it has an order", x.order(), 1);
        Check.due("and sizes", x.thing(1, 1), 0);
    }

    /** "A number of a ROW. NoSuchElementException: none such, not SMALL"; counts alike with NONE. */
    private static void rowArguments() {
        ShareTable x = Told.ofScheme(SPLIT);
        for (int row = -1; row <= 3; row++) {
            for (int thing = -1; thing <= 3; thing++) {
                boolean fits = row >= 0 && row < 3 && thing >= 0 && thing < 3;
                Check.due("row " + row + " " + thing, Told.row(x, row, thing) != THROWS, fits);
            }
            for (int what = -1; what <= 2; what++) {
                boolean fits = row >= 0 && row < 3 && what >= 0 && what < 2;
                Check.due("counts " + row + " " + what, x.counts(row, what) != NONE, fits);
            }
        }
        for (int far : FAR_OFF) {
            Check.due("row " + far, Told.row(x, far, 0), THROWS);
            Check.due("thing " + far, Told.row(x, 0, far), THROWS);
            Check.due("counts of row " + far, x.counts(far, 0), NONE);
            Check.due("counts, what " + far, x.counts(0, far), NONE);
        }
        x = Told.ofScheme(ONE_ROW);
        Check.due("the only row", Told.row(x, 0, 2), 1);
        Check.due("fewer rows than things", Told.row(x, 1, 0), THROWS);
        Check.due("nor counts of it", x.counts(1, 0), NONE);
    }

    /** "less numbers of thing 1 first, then of thing 2, and so on"; "none is farther from 0 than its SIZE". */
    private static void rowsInOrder() {
        ShareTable x = Told.ofScheme("points 8 colour (ring = 2) + 2 * (ring = 4) + 3 * (ring = 1 or ring = 3);");
        int[][] due = {{1, -2, 1, 0}, {1, 0, -1, 0}, {1, 2, 1, -4}, {1, 2, 1, 4}};
        Check.due("rows", x.rows(), due.length);
        for (int row = 0; row < due.length; row++) {
            for (int thing = 0; thing < 4; thing++) {
                Check.due("row " + row + " of " + thing, Told.row(x, row, thing), due[row][thing]);
            }
        }
        for (int size = 1; size <= 59; size++) {
            x = Told.ofTable(Told.twoThings(size));
            Check.due("as far as its size " + size, Told.row(x, 1, 1), size);
            Check.due("the other", Told.row(x, 0, 1), -1);
        }
    }

    /** "COUNT of a ROW .. above .. below, in lowest terms". */
    private static void countsInLowestTerms() {
        ShareTable x = Told.ofTable(HALVES);
        long[][] due = {{5, 2}, {3, 2}, {1, 1}};
        for (int row = 0; row < 3; row++) {
            Check.due("above " + row, x.counts(row, 0), due[row][0]);
            Check.due("below " + row, x.counts(row, 1), due[row][1]);
        }
        x = Told.ofScheme(SPLIT);
        Check.due("whole", x.counts(1, 0), 2);
        Check.due("over one", x.counts(1, 1), 1);
    }

    /** "SPLIT if there are as many ROWS as things and all COUNTS are whole": each alone is too little. */
    private static void splitOrNot() {
        Check.due("both", Told.ofScheme(SPLIT).twin(), 1);
        Check.due("both, a dual number", Told.dual(Told.ofScheme(SPLIT), 2, 2, 2, 0), 1);
        ShareTable halves = Told.ofTable(HALVES);
        Check.due("as many rows", halves.rows(), 3);
        Check.due("not all whole: dual", Told.dual(halves, 2, 2, 2, 0), THROWS);
        Check.due("not all whole: twin", halves.twin(), NONE);
        ShareTable one = Told.ofScheme(ONE_ROW);
        Check.due("whole", one.counts(0, 1), 1);
        Check.due("fewer rows: dual", Told.dual(one, 0, 0, 0, 0), THROWS);
        Check.due("fewer rows: twin", one.twin(), NONE);
    }

    /** "NoSuchElementException: others, not SPLIT". */
    private static void dualArguments() {
        ShareTable x = Told.ofScheme(SPLIT);
        for (int bad : new int[] {-1, 3, 4}) {
            Check.due("a " + bad, Told.dual(x, bad, 0, 0, 0), THROWS);
            Check.due("b " + bad, Told.dual(x, 0, bad, 0, 0), THROWS);
            Check.due("c " + bad, Told.dual(x, 0, 0, bad, 0), THROWS);
        }
        for (int far : FAR_OFF) {
            Check.due("a " + far, Told.dual(x, far, 0, 0, 1), THROWS);
            Check.due("b " + far, Told.dual(x, 0, far, 0, 1), THROWS);
            Check.due("c " + far, Told.dual(x, 0, 0, far, 1), THROWS);
            Check.due("what " + far, Told.dual(x, 0, 0, 0, far), THROWS);
        }
        Check.due("what -1", Told.dual(x, 0, 0, 0, -1), THROWS);
        Check.due("what 2", Told.dual(x, 0, 0, 0, 2), THROWS);
        Check.due("the last of all", Told.dual(x, 2, 2, 2, 1), 1);
    }

    /** DUAL numbers that are none, below 0, and no whole numbers. */
    private static void dualNumbers() {
        ShareTable x = Told.ofTable(NINTHS);
        Check.due("below 0, above", Told.dual(x, 0, 0, 0, 0), -4);
        Check.due("below 0, below", Told.dual(x, 0, 0, 0, 1), 9);
        Check.due("none, above", Told.dual(x, 2, 0, 1, 0), 0);
        Check.due("none, below", Told.dual(x, 2, 0, 1, 1), 1);
        Check.due("as many as its count", Told.dual(x, 0, 0, 2, 0), 6);
        Check.due("as many as its count, below", Told.dual(x, 0, 0, 2, 1), 1);
    }

    /** The points of a plane of seven by seven, their eight directions in five things: SIZES as large as six things have them. */
    private static String plane(int[] directions) {
        StringBuilder text = new StringBuilder("things 6;");
        for (int i = 1; i < 6; i++) {
            for (int j = 1; j <= i; j++) {
                text.append("times ").append(i).append(' ').append(j).append("gives");
                text.append(i == j ? " " + 6 * directions[i] + "of 0" : "");
                for (int k = 1; k < 6; k++) {
                    int a = directions[i] - (k == i ? 1 : 0);
                    int b = directions[j] - (k == j || i == j ? 1 : 0);
                    int share = i == j && i == k ? 5 + a * (a - 1) : a * b;
                    text.append(share > 0 ? " " + share + "of " + k : "");
                }
                text.append(';');
            }
        }
        return text.toString();
    }

    /** DUAL numbers where they are made of the greatest ones: of ROW k all are of the SIZE of k, so it is its own TWIN. */
    private static void greatestDuals() {
        int[] directions = {0, 1, 2, 2, 2, 1};
        String text = plane(directions);
        ShareTable x = Told.ofTable(text);
        Oracle o = new Oracle();
        for (int at = 0; at < text.length(); at += 24) {
            o.feed(Told.bytes(text, at), Told.bytes(text, at + 8), Told.bytes(text, at + 16));
        }
        Check.due("read by the oracle", o.table(), 0);
        Check.due("good", x.law(0), 0);
        Check.due("order", x.order(), 49);
        Check.due("rows", x.rows(), 6);
        for (int row = 0; row < 6; row++) {
            Check.due("count " + row, x.counts(row, 0), o.counts(row, 0));
        }
        for (int spot = 0; spot < 216; spot++) {
            int a = spot / 36;
            int b = spot / 6 % 6;
            int c = spot % 6;
            Check.due("dual " + a + " " + b + " " + c, Told.dual(x, a, b, c, 0), o.dual(a, b, c, 0));
            Check.due("whole " + a + " " + b + " " + c, Told.dual(x, a, b, c, 1), 1);
        }
        Check.due("its own", x.twin(), 1);
    }

    /** "Whether it is its own TWIN: 1 or 0; NONE: not SPLIT". */
    private static void twinOrNot() {
        Check.due("one thing", new ShareTable().twin(), 1);
        Check.due("a round of two in one of two", Told.ofTable("things 3; times 1 1 gives 1 of 0; times 1 2 gives 1 of 2; times 2 2 gives 2 of 0 2 of 1;").twin(), 1);
        Check.due("two of three points", Told.ofScheme("points 6 colour not same + not ((x < 3) = (y < 3));").twin(), 0);
        Check.due("a dual number is no share", Told.ofTable(NINTHS).twin(), 0);
        Check.due("words of three signs", Told.ofTable("things 4; times 1 1 gives 3 of 0 2 of 2; times 1 2 gives 2 of 1 3 of 3;"
            + "times 1 3 gives 1 of 2; times 2 2 gives 3 of 0 2 of 2; times 2 3 gives 1 of 1; times 3 3 gives 1 of 0;").twin(), 1);
        int[][] chains = {{2, 2}, {2, 3}, {3, 2}, {2, 3, 2}, {2, 2, 3}, {3, 2, 3}, {2, 2, 2, 2, 2}, {2, 2, 2, 2, 3}, {2, 3, 3, 2},
            {2, 3, 2, 3}, {2, 2, 3, 2, 2}, {30, 2}, {7, 7}};
        for (int[] chain : chains) {
            boolean alike = true;
            for (int i = 0; i < chain.length; i++) {
                alike &= chain[i] == chain[chain.length - 1 - i];
            }
            Check.due("twin of a chain of " + chain.length + " from " + chain[0], chained(chain).twin(), alike ? 1 : 0);
        }
    }

    /** Two things of each ORDER, each wreathed in those behind it; its TWIN is the chain from its end. */
    private static ShareTable chained(int[] orders) {
        ShareTable x = Told.ofTable(Told.twoThings(orders[orders.length - 1] - 1));
        for (int i = orders.length - 2; i >= 0; i--) {
            x.mark(0, false);
            Told.table(x, Told.twoThings(orders[i] - 1));
            Check.due("things of a chain", x.wreath(0), orders.length - i + 1);
        }
        return x;
    }

    /** "n steps (0 to 10) by a thing"; "NONE: others". */
    private static void stepsUpToTen() {
        ShareTable x = Told.ofScheme(SPLIT);
        for (int n = -2; n <= 12; n++) {
            boolean fits = n >= 0 && n <= 10;
            long due = n == 0 ? 1 : n % 2 == 1 ? 0 : 1L << n - 1;
            Check.due("steps " + n, x.walks(1, n, 0), fits ? due : NONE);
            Check.due("steps by 0: " + n, x.walks(0, n, 0), fits ? 1 : NONE);
            Check.due("steps by 0 to another: " + n, x.walks(0, n, 2), fits ? 0 : NONE);
        }
        for (int bad : new int[] {-1, 3, 6, Integer.MIN_VALUE, Integer.MAX_VALUE}) {
            Check.due("by " + bad, x.walks(bad, 1, 0), NONE);
            Check.due("at " + bad, x.walks(0, 1, bad), NONE);
            Check.due("no steps by " + bad, x.walks(bad, 0, 0), NONE);
        }
        Check.due("steps far off", x.walks(1, Integer.MAX_VALUE, 0), NONE);
        Check.due("steps far below", x.walks(1, Integer.MIN_VALUE, 0), NONE);
        // of all 59 to the 10: (59 to the 10 + 59) / 60 end at 0, (59 to the 10 - 1) / 60 at each other point
        x = Told.ofTable(Told.twoThings(59));
        Check.due("the most at 0", x.walks(1, 10, 0), 8518612555010691L);
        Check.due("the most at 1", x.walks(1, 10, 1), 8518612555010690L);
    }

    /** "MIXED: the first n by which it is at each thing some way"; "NONE: others, not SMALL, not within 10". */
    private static void mixedWithinTen() {
        Check.due("one thing at once", new ShareTable().mixed(0), 0);
        for (int n = 3; n <= 11; n += 2) {
            Check.due("a ring of " + n, Told.ofScheme("points " + n + " colour ring;").mixed(1), n - 1);
        }
        ShareTable eleven = Told.ofScheme("points 11 colour ring;");
        for (int by = 1; by <= 5; by++) {
            // it comes to each other point of the ring first, and to where its one step leads last
            Check.due("a ring of 11 by " + by, eleven.mixed(by), 10);
        }
        for (int n = 4; n <= 10; n += 2) {
            Check.due("a ring of " + n + " never", Told.ofScheme("points " + n + " colour ring;").mixed(1), NONE);
        }
        ShareTable x = Told.ofScheme(ONE_ROW);
        Check.due("a round never", x.mixed(1), NONE);
        for (int bad : new int[] {-1, 3, 6, Integer.MIN_VALUE, Integer.MAX_VALUE}) {
            Check.due("by " + bad, x.mixed(bad), NONE);
        }
        Check.due("by 0 never", x.mixed(0), NONE);
    }
}
