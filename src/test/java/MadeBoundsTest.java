/** The bounds of PARTS, QUOTIENT, FUSED and WREATH, and of shares up to 999,999, each on both sides. */
final class MadeBoundsTest {
    private static final int NONE = ShareTable.NONE;
    private static final int[] FAR_OFF = {64, 1 << 30, Integer.MAX_VALUE, -2, Integer.MIN_VALUE};

    public static void main(String[] args) {
        partArguments();
        partsAreClosed();
        quotientArguments();
        reversesOfClasses();
        quotientIsWhole();
        classesByLeastThings();
        fuseArguments();
        reversesAreAClass();
        asManyOfEach();
        partitionsInOrder();
        marksOfWreath();
        sixThingsAtMost();
        bothAreGood();
        whatAWreathGives();
        shareOfAWreath();
        shareOfAFusing();
        Check.end("MadeBoundsTest");
    }

    private static String round(int n) {
        return "points " + n + " colour y - x + " + n + " * (y < x);";
    }

    /** "The i-th PART as bits; NONE: others": 0 alone is the first, all things are the last. */
    private static void partArguments() {
        for (int n = 1; n <= 6; n++) {
            ShareTable x = Told.ofScheme(round(n));
            int parts = x.parts();
            Check.due("parts of a round of " + n, parts, new int[] {0, 1, 2, 2, 3, 2, 4}[n]);
            Check.due("the first", x.part(0), 1);
            Check.due("the last", x.part(parts - 1), (1 << n) - 1);
            Check.due("behind the last", x.part(parts), NONE);
            Check.due("ahead of the first", x.part(-1), NONE);
            for (int far : FAR_OFF) {
                Check.due("part " + far, x.part(far), NONE);
            }
        }
    }

    /** "closed: two of it give things of it alone; numbered as bits, the least first". */
    private static void partsAreClosed() {
        ShareTable x = Told.ofScheme(round(6));
        int[] due = {1, 9, 21, 63};
        for (int i = 0; i < due.length; i++) {
            Check.due("part " + i, x.part(i), due[i]);
        }
        x = Told.ofTable("things 3; times 1 1 gives 1 of 0; times 1 2 gives 1 of 2; times 2 2 gives 2 of 0 2 of 1;");
        Check.due("0 and 1 are closed, 0 and 2 are not", x.parts(), 3);
        Check.due("0 and 1", x.part(1), 3);
    }

    /** "QUOTIENT by the i-th PART: how many things there are then; NONE: others". */
    private static void quotientArguments() {
        int[] due = {6, 3, 2, 1};
        for (int i = -1; i <= 4; i++) {
            ShareTable x = Told.ofScheme(round(6));
            boolean fits = i >= 0 && i < 4;
            Check.due("quotient by " + i, x.quotient(i), fits ? due[i] : NONE);
            Check.due("things by " + i, x.count(0), fits ? due[i] : 6);
            Check.due("done by " + i, x.count(1), fits ? 2 : 1);
        }
        ShareTable x = Told.ofScheme(round(6));
        for (int far : FAR_OFF) {
            Check.due("quotient by " + far, x.quotient(far), NONE);
        }
        x = new ShareTable();
        Check.due("one thing by itself", x.quotient(0), 1);
        Check.due("one thing by none such", x.quotient(1), NONE);
    }

    /** The REVERSES of a CLASS are a CLASS: of six in a round the two that are left are each other's, or its own. */
    private static void reversesOfClasses() {
        ShareTable x = Told.ofScheme(round(6));
        Check.due("three are left", x.quotient(1), 3);
        Check.due("reverse of 0", x.thing(0, 0), 0);
        Check.due("reverse of 1", x.thing(1, 0), 2);
        Check.due("reverse of 2", x.thing(2, 0), 1);
        x.undo();
        Check.due("two are left", x.quotient(2), 2);
        Check.due("its own", x.thing(1, 0), 1);
        x.undo();
        Check.due("fused to six", x.fuse(x.fuses() - 1), 6);
        Check.due("reverse of 1 of six", x.thing(1, 0), 5);
        Check.due("fused to 0, 1 and 4, 2 and 5, 3", x.fuse(withClasses(x, 0, 1, 2, 3, 1, 2)), 4);
        Check.due("reverse of 1 and 4", x.thing(1, 0), 2);
        Check.due("reverse of 3", x.thing(3, 0), 3);
    }

    /** "it must be whole": of 0 and 1, ORDER 3, with another thing of which so many are needed. */
    private static void quotientIsWhole() {
        for (int size = 3; size <= 9; size++) {
            ShareTable x = Told.ofTable("things 3; times 1 1 gives 2 of 0 1 of 1; times 1 2 gives 2 of 2; times 2 2 gives "
                + size + " of 0 " + size + " of 1" + (size > 3 ? " " + (size - 3) + " of 2;" : ";"));
            boolean whole = size % 3 == 0;
            Check.due("good with " + size, x.law(0), 0);
            Check.due("the part with " + size, x.part(1), 3);
            Check.due("quotient with " + size, x.quotient(1), whole ? 2 : NONE);
            Check.due("what it gives with " + size, x.gives(1, 1, 0), whole ? size / 3 : 2);
            Check.due("of the other with " + size, x.gives(1, 1, 1), whole ? size / 3 - 1 : 1);
            Check.due("things with " + size, x.count(0), whole ? 2 : 3);
            Check.due("done with " + size, x.count(1), whole ? 2 : 1);
        }
    }

    /** Pairs of a thing of two and a thing of the ring of four; labels[a * 3 + b] is what the pair is called. */
    private static String pairs(int[] labels) {
        int[][][] ring = {{{1, 0, 0}, {0, 1, 0}, {0, 0, 1}}, {{0, 1, 0}, {2, 0, 2}, {0, 1, 0}}, {{0, 0, 1}, {0, 1, 0}, {1, 0, 0}}};
        StringBuilder text = new StringBuilder("things 6;");
        for (int i = 0; i < 6; i++) {
            for (int j = 0; j <= i; j++) {
                if (labels[i] > 0 && labels[j] > 0) {
                    text.append("times ").append(labels[i]).append(' ').append(labels[j]).append(" gives");
                    for (int k = 0; k < 6; k++) {
                        int share = (i / 3 ^ j / 3) == k / 3 ? ring[i % 3][j % 3][k % 3] : 0;
                        text.append(share > 0 ? " " + share + " of " + labels[k] : "");
                    }
                    text.append(';');
                }
            }
        }
        return text.toString();
    }

    /** "numbered by their least things": 0 and 5, then 1 and 4, then 2 and 3, whatever the greatest are. */
    private static void classesByLeastThings() {
        ShareTable x = Told.ofTable(pairs(new int[] {0, 2, 1, 5, 3, 4}));
        Check.due("good", x.law(0), 0);
        int part = 0;
        while (part < 32 && x.part(part) != 33) {
            part++;
        }
        Check.due("three classes", x.quotient(part), 3);
        int[] sizes = {1, 1, 2};
        for (int i = 0; i < 3; i++) {
            Check.due("size of class " + i, x.thing(i, 1), sizes[i]);
        }
        Check.due("2 and 3 give the first", x.gives(2, 2, 0), 2);
        Check.due("2 and 3 give 1 and 4", x.gives(2, 2, 1), 2);
        Check.due("1 and 4 give the first", x.gives(1, 1, 0), 1);
        Check.due("1 and 4 with 2 and 3", x.gives(1, 2, 2), 1);
    }

    /** "The CLASS of a thing in the i-th that can be; NONE: others"; fuse alike. */
    private static void fuseArguments() {
        ShareTable x = Told.ofScheme(round(4));
        Check.due("fuses", x.fuses(), 3);
        for (int i = -1; i <= 3; i++) {
            for (int thing = -1; thing <= 4; thing++) {
                boolean fits = i >= 0 && i < 3 && thing >= 0 && thing < 4;
                Check.due("fusing " + i + " " + thing, x.fusing(i, thing) != NONE, fits);
            }
        }
        for (int far : FAR_OFF) {
            Check.due("fusing " + far, x.fusing(far, 0), NONE);
            Check.due("fusing of " + far, x.fusing(0, far), NONE);
            Check.due("fuse " + far, x.fuse(far), NONE);
        }
        Check.due("fuse -1", x.fuse(-1), NONE);
        Check.due("fuse 3", x.fuse(3), NONE);
        Check.due("nothing was done", x.count(1), 1);
        int[] due = {2, 3, 4};
        for (int i = 0; i < 3; i++) {
            Check.due("fuse " + i, x.fuse(i), due[i]);
            Check.due("it was done", x.count(1), 2);
            x.undo();
        }
        x = new ShareTable();
        Check.due("one thing in one way", x.fuses(), 1);
        Check.due("its class", x.fusing(0, 0), 0);
        Check.due("fused it is", x.fuse(0), 1);
        Check.due("no other way", x.fuse(1), NONE);
    }

    private static void fusings(String text, int[][] due) {
        ShareTable x = Told.ofScheme(text);
        Check.due("fuses of " + text, x.fuses(), due.length);
        for (int i = 0; i < due.length; i++) {
            for (int thing = 0; thing < due[i].length; thing++) {
                Check.due("fusing " + i + " " + thing + " of " + text, x.fusing(i, thing), due[i][thing]);
            }
        }
    }

    /** "REVERSES of a CLASS are a CLASS": 1 and 3 are REVERSES, so 1 and 2 are no CLASS. */
    private static void reversesAreAClass() {
        fusings(round(3), new int[][] {{0, 1, 1}, {0, 1, 2}});
        fusings(round(4), new int[][] {{0, 1, 1, 1}, {0, 1, 2, 1}, {0, 1, 2, 3}});
    }

    /** "CLASSES give as many of each thing of one CLASS": of the ring of six 2 and 3 are no CLASS. */
    private static void asManyOfEach() {
        fusings("points 6 colour ring;", new int[][] {{0, 1, 1, 1}, {0, 1, 1, 2}, {0, 1, 2, 1}, {0, 1, 2, 3}});
    }

    /** "each at most one more than the greatest ahead; they are numbered as such rows come, the least first". */
    private static void partitionsInOrder() {
        // any two of three signs give the third: all of five PARTITIONS can be
        ShareTable x = Told.ofTable("things 4; times 1 1 gives 1 of 0; times 2 2 gives 1 of 0; times 3 3 gives 1 of 0;"
            + "times 1 2 gives 1 of 3; times 1 3 gives 1 of 2; times 2 3 gives 1 of 1;");
        int[][] due = {{0, 1, 1, 1}, {0, 1, 1, 2}, {0, 1, 2, 1}, {0, 1, 2, 2}, {0, 1, 2, 3}};
        Check.due("all five", x.fuses(), 5);
        for (int i = 0; i < 5; i++) {
            for (int thing = 0; thing < 4; thing++) {
                Check.due("fusing " + i + " " + thing, x.fusing(i, thing), due[i][thing]);
            }
        }
    }

    /** "NONE: nothing is on it": MARKS 0 to 3. */
    private static void marksOfWreath() {
        for (int mark = -1; mark <= 4; mark++) {
            ShareTable x = Told.ofTable(Told.twoThings(1));
            Check.due("nothing on " + mark, x.wreath(mark), NONE);
            x.mark(mark, false);
            boolean fits = mark >= 0 && mark < 4;
            Check.due("wreath in " + mark, x.wreath(mark), fits ? 3 : NONE);
            Check.due("done in " + mark, x.count(1), fits ? 2 : 1);
        }
        ShareTable x = new ShareTable();
        for (int far : FAR_OFF) {
            Check.due("wreath in " + far, x.wreath(far), NONE);
        }
    }

    /** "6 things at most then". */
    private static void sixThingsAtMost() {
        for (int own = 1; own <= 6; own++) {
            for (int other = 1; other <= 6; other++) {
                ShareTable x = Told.ofScheme(round(other));
                x.mark(2, false);
                Told.scheme(x, round(own));
                int all = own + other - 1;
                Check.due(own + " in " + other, x.wreath(2), all <= 6 ? all : NONE);
                Check.due("things then", x.count(0), all <= 6 ? all : own);
                Check.due("order then", x.order(), all <= 6 ? own * other : own);
                Check.due("good then", x.law(0), 0);
            }
        }
    }

    /** "of a GOOD TABLE in that of a MARK (GOOD, too ..)". */
    private static void bothAreGood() {
        ShareTable x = Told.ofTable("things 2;");
        x.mark(0, false);
        Check.due("neither", x.wreath(0), NONE);
        Told.table(x, Told.twoThings(1));
        Check.due("not that of the mark", x.wreath(0), NONE);
        x.mark(1, false);
        Check.due("both", x.wreath(1), 3);
        x.mark(0, true);
        Check.due("not its own", x.wreath(1), NONE);
        Check.due("a mark that is not good holds its table", x.gives(1, 1, 0), 0);
    }

    /** Each share of a ring of four wreathed in a round of three, by the words of the document. */
    private static void whatAWreathGives() {
        ShareTable x = Told.ofScheme(round(3));
        x.mark(0, false);
        Told.scheme(x, "points 4 colour ring;");
        int[][][] own = new int[3][3][3];
        for (int spot = 0; spot < 27; spot++) {
            own[spot / 9][spot / 3 % 3][spot % 3] = x.gives(spot / 9, spot / 3 % 3, spot % 3);
        }
        int[] size = {1, 2, 1};
        Check.due("wreath", x.wreath(0), 5);
        for (int i = 0; i < 5; i++) {
            Check.due("reverse of " + i, x.thing(i, 0), new int[] {0, 1, 2, 4, 3}[i]);
            for (int j = 0; j < 5; j++) {
                for (int k = 0; k < 5; k++) {
                    int due;
                    if (i < 3 && j < 3) {
                        due = k < 3 ? own[i][j][k] : 0;
                    } else if (i < 3 || j < 3) {
                        due = k == Math.max(i, j) ? size[Math.min(i, j)] : 0;
                    } else {
                        int third = (i - 2 + j - 2) % 3;
                        due = third == 0 ? k < 3 ? 4 : 0 : k == third + 2 ? 4 : 0;
                    }
                    Check.due("gives " + i + " " + j + " " + k, x.gives(i, j, k), due);
                }
            }
        }
    }

    /** Lays a TABLE of ORDER a times b on a MARK: a - 1 others, and b - 1 times a. */
    private static void layWreath(ShareTable x, int mark, int a, int b) {
        Told.table(x, Told.twoThings(b - 1));
        x.mark(mark, false);
        Told.table(x, Told.twoThings(a - 1));
        Check.due("order " + a + " in " + b, x.wreath(mark), 3);
        Check.due("order " + a * b, x.order(), a * b);
        x.mark(mark, false);
    }

    /** "Shares above 999,999 can't be": 999 times 1,001 can, 1,000 times 1,000 can't. */
    private static void shareOfAWreath() {
        ShareTable x = new ShareTable();
        layWreath(x, 0, 6, 167);
        Check.due("1,002 points in one", x.fuse(0), 2);
        Check.due("1,001 others", x.thing(1, 1), 1001);
        x.mark(0, false);
        Told.table(x, Told.twoThings(998));
        Check.due("999 times 1,001", x.wreath(0), 3);
        Check.due("is 999,999", x.gives(2, 2, 0), 999999);
        Check.due("of each of its things", x.gives(2, 2, 1), 999999);
        Check.due("of the other", x.gives(2, 2, 2), 999 * 1000);
        Check.due("its order", x.order(), 1000998);
        Check.due("it is good", x.law(0), 0);
        layWreath(x, 1, 7, 143);
        Check.due("1,001 points in one", x.fuse(0), 2);
        Check.due("1,000 others", x.thing(1, 1), 1000);
        x.mark(1, false);
        Told.table(x, Told.twoThings(999));
        int done = x.count(1);
        Check.due("1,000 times 1,000", x.wreath(1), NONE);
        Check.due("is refused", x.count(0), 2);
        Check.due("all stays", x.gives(1, 1, 0), 999);
        Check.due("nothing was done", x.count(1), done);
        Told.table(x, Told.twoThings(998));
        Check.due("999 times 1,000", x.wreath(1), 3);
        Check.due("is 999,000", x.gives(2, 2, 0), 999000);
    }

    private static int withClasses(ShareTable x, int... classes) {
        for (int i = 0; i < x.fuses(); i++) {
            boolean is = true;
            for (int thing = 0; thing < classes.length; thing++) {
                is &= x.fusing(i, thing) == classes[thing];
            }
            if (is) {
                return i;
            }
        }
        Check.due("classes can be fused", false, true);
        return NONE;
    }

    /** "what would make one is REFUSED": CLASSES of 999,999 and of 1,000,000. It can be FUSED all the same, by its CLASSES. */
    private static void shareOfAFusing() {
        ShareTable x = new ShareTable();
        layWreath(x, 0, 2, 500);
        layWreath(x, 1, 7, 143);
        Check.due("1,001 in 1,000", x.wreath(0), 5);
        int most = withClasses(x, 0, 1, 2, 3, 3);
        Check.due("a class of 999,999", x.fuse(most), 4);
        Check.due("is as large", x.gives(3, 3, 0), 999999);
        Check.due("can be undone", x.undo(), true);
        int all = withClasses(x, 0, 1, 1, 1, 1);
        Check.due("a class of 1,000,999", x.fuse(all), NONE);
        Check.due("is refused", x.count(0), 5);
        Check.due("can be done again still", x.count(2), 1);
        x.mark(1, true);
        x.mark(3, false);
        Told.table(x, Told.twoThings(999));
        Check.due("1,000 in 1,001", x.wreath(3), 4);
        int done = x.count(1);
        Check.due("a class of 1,000,000", x.fuse(withClasses(x, 0, 1, 2, 2)), NONE);
        Check.due("is refused, too", x.count(0), 4);
        Check.due("nothing was done", x.count(1), done);
        Check.due("a class of 6,999", x.fuse(withClasses(x, 0, 1, 1, 2)), 3);
        Check.due("is as large", x.thing(1, 1), 6999);
    }
}
