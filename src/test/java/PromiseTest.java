/** Each promise of the document by hand: ordinary inputs, the edges that it names, and wrong inputs. */
final class PromiseTest {
    private static final int NONE = ShareTable.NONE;
    private static final long THROWS = Told.THROWS;

    private static final String THREE_ROUND =
        "things 3 ; times 1 1 gives 1 of 2 ; times 2 2 gives 1 of 1 ; times 1 2 gives 1 of 0 ; reverse 1 2 ;";
    private static final String FOUR_RING = "points 4 colour ring ;";
    /** Laws 1 and 2 hold; the first that is broken is 3. */
    private static final String NOT_REVERSED =
        "things 3; times 1 1 gives 1 of 1 1 of 2; times 2 2 gives 1 of 1; times 1 2 gives 1 of 0 1 of 2; reverse 1 2;";
    /** GOOD, but the PART of 0 and 1 has ORDER 3, and 4 of 0 can't be divided by it. */
    private static final String NOT_DIVIDED =
        "things 3; times 1 1 gives 2 of 0 1 of 1; times 1 2 gives 2 of 2; times 2 2 gives 4 of 0 4 of 1 1 of 2;";
    /** Three things by 28, 9, 0, 4: SPLIT, but a DUAL number is below 0. */
    private static final String BELOW_ZERO =
        "things 3; times 1 1 gives 9 of 0 4 of 2; times 1 2 gives 8 of 1 5 of 2; times 2 2 gives 18 of 0 10 of 1 12 of 2;";
    /** Three things by 5, 2, 0, 1: one ROW is whole. */
    private static final String FIVE_RING = "points 5 colour ring ;";

    public static void main(String[] args) {
        newObject();
        feeding();
        tables();
        tableFaults();
        schemes();
        schemeFaults();
        whys();
        givesThingOrder();
        laws();
        rowsAndCounts();
        duals();
        twins();
        parts();
        quotients();
        fusings();
        wreaths();
        kinds();
        walks();
        undoneAndAgain();
        marks();
        counted();
        Check.end("PromiseTest");
    }

    private static void due(String what, long got, long want) {
        Check.due(what, got, want);
    }

    private static void due(String what, boolean got, boolean want) {
        Check.due(what, got, want);
    }

    private static void newObject() {
        ShareTable x = new ShareTable();
        due("1: things", x.count(0), 1);
        due("1: can be undone", x.count(1), 0);
        due("1: again", x.count(2), 0);
        due("1: signs", x.count(3), 0);
        due("1: gives", x.gives(0, 0, 0), 1);
        due("1: reverse", x.thing(0, 0), 0);
        due("1: size", x.thing(0, 1), 1);
        due("1: order", x.order(), 1);
        due("1: good", x.law(0), 0);
        due("1: why", x.why(), 0);
        due("1: quotient of one thing", x.quotient(0), 1);
        due("1: fuse of one thing", x.fuse(0), 1);
    }

    private static void feeding() {
        ShareTable x = new ShareTable();
        due("2: nothing", x.feed(0, 0, 0), 0);
        due("2: highest first", x.feed('(' << 8 | '!', 0, 0), 2);
        due("2: a word in order", Told.table(x, ""), 1);
        due("2: 31 and 127 and above are left out", x.feed(0x1F7F80FF00090B0DL, -1L, Long.MIN_VALUE), 0);
        due("2: 10, 32 and 126 come", x.feed(0x0A207E00000A007EL, 0x2000000000000000L, 0x41L), 7);
        x.table();
        for (int i = 1; i <= 41; i++) {
            due("2: all 24", x.feed(0x2020202020202020L, 0x2020202020202020L, 0x2020202020202020L), 24 * i);
        }
        due("2: up to 1,000", x.feed(0x2020202020202020L, 0x2020202020202020L, 0x2020202020202020L), 1000);
        due("2: no more", x.feed(0x4141414141414141L, 0, 0x41L), 1000);
        due("2: counted", x.count(3), 1000);
        due("2: the end is at 1,000", x.table(), 1000 * 16 + 1);
        due("2: it is taken", x.count(3), 0);
        Told.feed(x, "things 2;");
        Told.feed(x, "times 1 1 gives 5 of 0 4 of 1;");
        due("2: feeds come behind each other", x.table(), 0);
        due("2: and were read", x.gives(1, 1, 1), 4);
    }

    private static void tables() {
        due("3: one thing", Told.ofTable("things 1;").count(0), 1);
        due("3: six things", Told.ofTable("things 6;").count(0), 6);
        due("3: zeros ahead", Told.ofTable("things 0003;").count(0), 3);
        ShareTable x = Told.ofTable("\nthings3;times 2 1gives 7of2 999of 0;reverse 2 1;times 1 1gives;\n ");
        due("3: told", x.gives(1, 2, 2), 7);
        due("3: in the other order", x.gives(2, 1, 0), 999);
        due("3: not told in the line", x.gives(2, 1, 1), 0);
        due("3: not told", x.gives(2, 2, 0), 0);
        due("3: told as nothing", x.gives(1, 1, 1), 0);
        due("3: the unit", x.gives(0, 2, 2), 1);
        due("3: the unit gives no other", x.gives(2, 0, 1), 0);
        due("3: the reverse", x.thing(1, 0), 2);
        due("3: the reverse of 0", x.thing(0, 0), 0);
        due("3: a fault", Told.table(x, "things 2; times 1 1 gives 1 of 0"), 32 * 16 + 1);
        due("3: all stays", x.gives(1, 2, 2), 7);
        due("3: all stays, no more can be undone", x.count(1), 1);
        due("3: the tape is taken", x.count(3), 0);
    }

    private static void fault(String text, int kind, int place) {
        due("3: fault of " + text, Told.table(new ShareTable(), text), kind + 16 * place);
    }

    private static void tableFaults() {
        fault("", 1, 0);
        fault("   ", 1, 3);
        fault("thing 3 ;", 1, 0);
        fault("thingsthings 3 ;", 1, 0);
        fault("things things ;", 1, 7);
        fault("things 0 ;", 4, 7);
        fault("things 7 ;", 4, 7);
        fault("things 9999 ;", 4, 7);
        fault("things 10000 ;", 1, 7);
        fault("things 3", 1, 8);
        fault("things 3   ", 1, 11);
        fault("things 3 : ", 1, 9);
        fault("things 3 ; times", 1, 16);
        fault("things 3 ; gives", 1, 11);
        fault("things 3 ; ;", 1, 11);
        fault("things 3 ; times 0", 4, 17);
        fault("things 3 ; times 3", 4, 17);
        fault("things 1 ; times 1", 4, 17);
        fault("things 3 ; times 1 0", 4, 19);
        fault("things 3 ; times 1 3", 4, 19);
        fault("things 3 ; times 1 x", 1, 19);
        fault("things 3 ; times 1 1 gives ; times 1 1", 3, 37);
        fault("things 3 ; times 1 2 gives ; times 2 1", 3, 37);
        fault("things 3 ; times 1 1 gives 0", 4, 27);
        fault("things 3 ; times 1 1 gives 1000", 4, 27);
        fault("things 3 ; times 1 1 gives 1 off", 1, 29);
        fault("things 3 ; times 1 1 gives 1 of 3", 4, 32);
        fault("things 3 ; times 1 1 gives 1 of of", 1, 32);
        fault("things 3 ; times 1 1 gives 1 of 0 2 of 0", 3, 39);
        fault("things 3 ; times 1 1 gives 1 of 0 times", 1, 34);
        fault("things 3 ; times 1 1 gives 1 of 0 ; 1", 1, 36);
        fault("things 3 ; reverse 0", 4, 19);
        fault("things 3 ; reverse 3", 4, 19);
        fault("things 3 ; reverse 1 1", 3, 21);
        fault("things 3 ; reverse 1 3", 4, 21);
        fault("things 3 ; reverse 1 2 3", 1, 23);
        fault("things 5 ; reverse 1 2 ; reverse 2", 3, 33);
        fault("things 5 ; reverse 1 2 ; reverse 3 1", 3, 35);
        fault("things 3 ; reverse abcdefghi", 1, 19);
        fault("things 3 ; Reverse", 1, 11);
        fault("things 3 ; re~erse", 1, 11);
    }

    private static void schemes() {
        due("4: one point", Told.ofScheme("points 1 colour 0 ;").count(0), 1);
        ShareTable x = Told.ofScheme("points 3 colour 0 = 0 + same ;");
        due("4: sums ahead of tests", x.count(0), 2);
        x = Told.ofScheme("points 12 colour ( ring = 6 ) + not same ;");
        due("4: twelve points", x.count(0), 3);
        due("4: how many", x.gives(1, 1, 0), 10);
        due("4: how many of 2", x.gives(1, 1, 2), 10);
        due("4: how many of 1", x.gives(1, 1, 1), 8);
        x = Told.ofScheme("points 4 colour y - x + 4 * ( y < x ) ;");
        due("4: four in a round", x.gives(3, 2, 1), 1);
        due("4: their reverses", x.thing(1, 0), 3);
        due("4: far is not below 0", Told.ofScheme("points 2 colour far ;").count(0), 2);
        due("4: and, or from the left", Told.ofScheme("points 3 colour 1 or 1 and not same ;").count(0), 2);
        due("4: not ahead of times", Told.ofScheme("points 3 colour not same * 1 ;").count(0), 2);
        due("4: less from the left", Told.ofScheme("points 3 colour 3 - 2 - same ;").count(0), 2);
        due("4: what is not 0 is so", Told.ofScheme("points 2 colour 5 and ( x - y ) ;").count(0), 2);
        due("4: ints wrap", Told.ofScheme("points 2 colour 8192 * 8192 * 64 * far + far;").count(0), 2);
        due("4: five deep", Told.ofScheme("points 2 colour not ( not ( 1 - same ) * 1 ) ;").count(0), 2);
    }

    private static void schemeFault(String text, int kind, int place) {
        due("4: fault of " + text, Told.scheme(new ShareTable(), text), kind + 16 * place);
    }

    private static void schemeFaults() {
        schemeFault("", 1, 0);
        schemeFault("things 3 ;", 1, 0);
        schemeFault("points 0", 4, 7);
        schemeFault("points 13", 4, 7);
        schemeFault("points ;", 1, 7);
        schemeFault("points 3 color", 1, 9);
        schemeFault("points 3 colour", 1, 15);
        schemeFault("points 3 colour ;", 1, 16);
        schemeFault("points 3 colour and", 1, 16);
        schemeFault("points 3 colour - 1", 1, 16);
        schemeFault("points 3 colour x", 1, 17);
        schemeFault("points 3 colour x y", 1, 18);
        schemeFault("points 3 colour x < y = 1", 1, 22);
        schemeFault("points 3 colour ( x < y ) = 1 = 1", 1, 30);
        schemeFault("points 3 colour ( x ; ", 1, 20);
        schemeFault("points 3 colour x ) ;", 1, 18);
        schemeFault("points 3 colour ( ) ;", 1, 18);
        schemeFault("points 3 colour x ; ;", 1, 20);
        schemeFault("points 3 colour 10000", 1, 16);
        schemeFault("points 3 colour not not not not not x", 5, 36);
        schemeFault("points 3 colour not not not not not not", 5, 36);
        schemeFault("points 3 colour not not not not not z", 1, 36);
        schemeFault("points 3 colour not not not not not ;", 1, 36);
        schemeFault("points 3 colour ((((( 1", 5, 22);
        schemeFault("points 3 colour ((((((", 5, 21);
        schemeFault("points 3 colour (not(not( 12345", 1, 26);
        schemeFault("points 3 colour ((((1))))+(((((1", 5, 31);
        schemeFault("points 2 colour 0 ;  ", 6, 21);
        ShareTable x = Told.ofScheme(FOUR_RING);
        Told.scheme(x, "points 3 colour 0 ;");
        due("4: all stays", x.count(0), 3);
        due("4: the tape is taken", x.count(3), 0);
        due("4: nothing more to undo", x.count(1), 1);
    }

    private static void why(String text, int why) {
        ShareTable x = new ShareTable();
        due("5: " + text, Told.scheme(x, text) % 16, why == 0 ? 0 : 6);
        due("5: why of " + text, x.why(), why);
    }

    private static void whys() {
        why("points 3 colour 6 * not same ;", 1);
        why("points 3 colour 0 - not same ;", 1);
        why("points 3 colour 2 * not same ;", 1);
        why("points 7 colour far ;", 1);
        why("points 3 colour same ;", 2);
        why("points 3 colour x * y ;", 1);
        why("points 3 colour not same * ( 1 + ( x = 0 ) ) ;", 3);
        why("points 3 colour not same * ( 1 + ( x + y = 1 ) ) ;", 4);
        why(Texts.SIX_IN_TWO_ORDERS, 5);
        why("points 2 colour far ;", 0);
        ShareTable x = new ShareTable();
        Told.scheme(x, "points 3 colour same ;");
        Told.scheme(x, "points 3 colour same ");
        due("5: another fault leaves it", x.why(), 2);
        Told.table(x, "things 2;");
        due("5: a table leaves it", x.why(), 2);
        x.undo();
        due("5: undo leaves it", x.why(), 2);
        Told.scheme(x, "points 3 colour not same ;");
        due("5: they were", x.why(), 0);
    }

    private static void givesThingOrder() {
        ShareTable x = Told.ofTable(BELOW_ZERO);
        due("6: some", x.gives(2, 1, 1), 8);
        due("6: none", x.gives(1, 1, 1), 0);
        int[] bad = {-1, 3, 6, Integer.MAX_VALUE, Integer.MIN_VALUE};
        for (int b : bad) {
            due("6: i " + b, x.gives(b, 0, 0), NONE);
            due("6: j " + b, x.gives(0, b, 0), NONE);
            due("6: k " + b, x.gives(0, 0, b), NONE);
            due("7: thing " + b, x.thing(b, 0), NONE);
            due("7: size " + b, x.thing(b, 1), NONE);
            due("7: what " + b, x.thing(0, b), NONE);
        }
        due("7: size", x.thing(2, 1), 18);
        due("7: what 2", x.thing(2, 2), NONE);
        due("8: order", x.order(), 28);
        x = Told.ofTable("things 3; times 1 1 gives 4 of 0; times 1 2 gives 7 of 0; reverse 1 2;");
        due("7: reverse", x.thing(2, 0), 1);
        due("7: size by the reverse", x.thing(1, 1), 7);
        due("8: order of one that is not good", x.order(), 15);
    }

    private static void law(String text, int law, int i, int j, int k) {
        ShareTable x = Told.ofTable(text);
        due("9: law of " + text, x.law(0), law);
        due("9: I of " + text, x.law(1), i);
        due("9: J of " + text, x.law(2), j);
        due("9: K of " + text, x.law(3), k);
        due("9: what 4", x.law(4), NONE);
        due("9: what -1", x.law(-1), NONE);
    }

    private static void laws() {
        law(THREE_ROUND, 0, NONE, NONE, NONE);
        law(BELOW_ZERO, 0, NONE, NONE, NONE);
        law("things 3; times 1 1 gives 1 of 2; times 1 2 gives 1 of 1; times 2 2 gives 1 of 0;", 1, 1, 1, 2);
        law("things 4; times 2 2 gives 1 of 3; times 2 3 gives 1 of 0; times 3 3 gives 1 of 3;", 1, 1, 2, 3);
        law("things 2;", 2, 1, 1, 0);
        law("things 3; times 1 1 gives 1 of 2; reverse 1 2;", 2, 1, 2, 0);
        law(NOT_REVERSED, 3, 1, 1, 1);
        law("things 2; times 1 1 gives 2 of 0 2 of 1;", 4, 1, 1, 0);
        law("things 2; times 1 1 gives 2 of 0;", 4, 1, 1, 0);
    }

    private static void rowsAndCounts() {
        ShareTable x = Told.ofScheme(FOUR_RING);
        long[][] due = {{1, -2, 1}, {1, 0, -1}, {1, 2, 1}};
        due("10: rows", x.rows(), 3);
        for (int row = 0; row < 3; row++) {
            for (int thing = 0; thing < 3; thing++) {
                due("11: row " + row + " " + thing, Told.row(x, row, thing), due[row][thing]);
            }
            due("12: below", x.counts(row, 1), 1);
        }
        due("12: counts 0", x.counts(0, 0), 1);
        due("12: counts 1", x.counts(1, 0), 2);
        int[] bad = {-1, 3, 6, 36, Integer.MAX_VALUE, Integer.MIN_VALUE};
        for (int b : bad) {
            due("11: row " + b, Told.row(x, b, 0), THROWS);
            due("11: thing " + b, Told.row(x, 0, b), THROWS);
            due("12: row " + b, x.counts(b, 0), NONE);
            due("12: what " + b, x.counts(0, b), NONE);
        }
        due("12: what 2", x.counts(0, 2), NONE);
        x = Told.ofScheme(FIVE_RING);
        due("10: one is whole", x.rows(), 1);
        due("11: it is that of sizes", Told.row(x, 0, 2), 2);
        due("11: no other", Told.row(x, 1, 0), THROWS);
        x = Told.ofTable("things 3; times 1 1 gives 1 of 0; times 1 2 gives 1 of 2; times 2 2 gives 3 of 0 3 of 1 1 of 2;");
        due("10: good", x.law(0), 0);
        due("10: two of three things by fifths", x.rows(), 3);
        due("12: above of a fraction", x.counts(1, 0), 3);
        due("12: below of a fraction", x.counts(1, 1), 2);
        due("12: above of the first", x.counts(0, 0), 5);
        due("12: below of the first", x.counts(0, 1), 2);
        due("13: not split then", Told.dual(x, 0, 0, 0, 0), THROWS);
        due("14: not split then", x.twin(), NONE);
        due("10: order 60 is small", Told.ofTable("things 2; times 1 1 gives 59 of 0 58 of 1;").rows(), 2);
        x = Told.ofTable("things 2; times 1 1 gives 60 of 0 59 of 1;");
        due("10: order 61 is not", x.rows(), NONE);
        due("11: order 61 is not", Told.row(x, 0, 0), THROWS);
        due("12: order 61 is not", x.counts(0, 0), NONE);
        due("13: order 61 is not", Told.dual(x, 0, 0, 0, 0), THROWS);
        due("14: order 61 is not", x.twin(), NONE);
        due("15: order 61 is good", x.parts(), 2);
        due("25: order 61 is not", x.walks(0, 0, 0), NONE);
        due("26: order 61 is not", x.mixed(1), NONE);
        x = Told.ofTable("things 2; times 1 1 gives 2 of 0;");
        due("10: not good", x.rows(), NONE);
        due("11: not good", Told.row(x, 0, 0), THROWS);
        due("12: not good", x.counts(0, 0), NONE);
    }

    private static void duals() {
        ShareTable x = Told.ofTable(BELOW_ZERO);
        due("13: split", x.rows(), 3);
        due("13: of the row of sizes", Told.dual(x, 2, 0, 0, 0), 1);
        due("13: of the row of sizes, none", Told.dual(x, 2, 0, 1, 0), 0);
        due("13: none over one", Told.dual(x, 2, 0, 1, 1), 1);
        due("13: count of 0", x.counts(0, 0), 6);
        // 36 / 28 * (1 - 125 / 81 + 64 / 324)
        due("13: below 0", Told.dual(x, 0, 0, 0, 0), -4);
        due("13: and below the line", Told.dual(x, 0, 0, 0, 1), 9);
        int[] bad = {-1, 3, Integer.MAX_VALUE, Integer.MIN_VALUE};
        for (int b : bad) {
            due("13: a " + b, Told.dual(x, b, 0, 0, 0), THROWS);
            due("13: b " + b, Told.dual(x, 0, b, 0, 0), THROWS);
            due("13: c " + b, Told.dual(x, 0, 0, b, 1), THROWS);
            due("13: what " + b, Told.dual(x, 0, 0, 0, b), THROWS);
        }
        due("13: what 2", Told.dual(x, 0, 0, 0, 2), THROWS);
        due("13: too few rows", Told.dual(Told.ofScheme(FIVE_RING), 0, 0, 0, 0), THROWS);
        due("13: not good", Told.dual(Told.ofTable("things 2;"), 0, 0, 0, 0), THROWS);
    }

    private static void twins() {
        due("14: its own", Told.ofScheme(FOUR_RING).twin(), 1);
        due("14: below 0 is no share", Told.ofTable(BELOW_ZERO).twin(), 0);
        due("14: not split", Told.ofScheme(FIVE_RING).twin(), NONE);
        due("14: not good", Told.ofTable("things 2;").twin(), NONE);
        due("14: two times three, the two within", Told.ofScheme("points 6 colour not same + not ((x < 3) = (y < 3)) ;").twin(), 0);
        due("14: six points", Told.ofScheme("points 6 colour ring ;").twin(), 1);
        due("14: ten of three", Told.ofTable("things 3; times 1 1 gives 3 of 0 1 of 2; times 1 2 gives 2 of 1 2 of 2;"
            + "times 2 2 gives 6 of 0 4 of 1 3 of 2;").twin(), 0);
    }

    private static void parts() {
        ShareTable x = Told.ofScheme("points 6 colour ring ;");
        int[] due = {1, 5, 9, 15};
        due("15: parts", x.parts(), due.length);
        for (int i = 0; i < due.length; i++) {
            due("16: part " + i, x.part(i), due[i]);
        }
        due("16: part 4", x.part(4), NONE);
        due("16: part -1", x.part(-1), NONE);
        due("16: part far off", x.part(Integer.MAX_VALUE), NONE);
        x = Told.ofTable("things 2;");
        due("15: not good", x.parts(), NONE);
        due("16: not good", x.part(0), NONE);
        due("17: not good", x.quotient(0), NONE);
        due("18: not good", x.fuses(), NONE);
        due("19: not good", x.fusing(0, 0), NONE);
        due("20: not good", x.fuse(0), NONE);
    }

    private static void quotients() {
        ShareTable x = Told.ofScheme("points 6 colour y - x + 6 * ( y < x ) ;");
        due("17: six in a round have four parts", x.parts(), 4);
        due("17: the part of three", x.part(2), 21);
        due("17: two of it", x.quotient(2), 2);
        due("17: as two do", x.gives(1, 1, 0), 1);
        due("17: undone", x.undo(), true);
        due("17: the part of two", x.part(1), 9);
        due("17: three of it", x.quotient(1), 3);
        due("17: their reverses", x.thing(1, 0), 2);
        due("17: what they give", x.gives(1, 1, 2), 1);
        due("17: by all", x.quotient(1), 1);
        due("17: by none such", x.quotient(1), NONE);
        due("17: by -1", x.quotient(-1), NONE);
        due("17: done three times", x.count(1), 3);
        due("17: by 0 alone it is the same", x.quotient(0), 1);
        due("17: but done", x.count(1), 4);
        x = Told.ofTable(NOT_DIVIDED);
        due("17: a part of order 3", x.part(1), 3);
        due("17: is refused", x.quotient(1), NONE);
        due("17: all stays", x.gives(2, 2, 0), 4);
        due("17: nothing was done", x.count(1), 1);
    }

    private static void fusings() {
        ShareTable x = Told.ofScheme("points 5 colour y - x + 5 * ( y < x ) ;");
        int[][] due = {{0, 1, 1, 1, 1}, {0, 1, 2, 2, 1}, {0, 1, 2, 3, 4}};
        due("18: fuses", x.fuses(), due.length);
        for (int i = 0; i < due.length; i++) {
            for (int thing = 0; thing < 5; thing++) {
                due("19: fusing " + i + " " + thing, x.fusing(i, thing), due[i][thing]);
            }
        }
        int[] bad = {-1, 3, 5, Integer.MAX_VALUE, Integer.MIN_VALUE};
        for (int b : bad) {
            due("19: i " + b, x.fusing(b, 0), NONE);
            due("20: i " + b, x.fuse(b), NONE);
        }
        due("19: thing -1", x.fusing(0, -1), NONE);
        due("19: thing 5", x.fusing(0, 5), NONE);
        due("20: two and two", x.fuse(1), 3);
        due("20: what they give", x.gives(1, 1, 2), 1);
        due("20: of 0", x.gives(1, 1, 0), 2);
        due("20: their own reverses", x.thing(1, 0), 1);
        due("20: undone", x.undo(), true);
        due("20: all four", x.fuse(0), 2);
        due("20: of each other", x.gives(1, 1, 1), 3);
        due("20: undone", x.undo(), true);
        due("20: none", x.fuse(2), 5);
        due("20: stays a round", x.gives(3, 4, 2), 1);
        due("20: done", x.count(1), 2);
        fuseAll();
        fuseRefused();
    }

    /** Sixteen points in five ways in four lines of four: each PARTITION can be FUSED. */
    private static void fuseAll() {
        ShareTable x = Told.ofTable(fiveWays());
        due("18: all", x.fuses(), 52);
        for (int thing = 0; thing < 6; thing++) {
            due("19: the first", x.fusing(0, thing), thing == 0 ? 0 : 1);
            due("19: the second", x.fusing(1, thing), thing == 0 ? 0 : thing == 5 ? 2 : 1);
            due("19: the last but one", x.fusing(50, thing), thing == 5 ? 4 : thing);
            due("19: the last", x.fusing(51, thing), thing);
        }
        due("19: no more", x.fusing(52, 0), NONE);
        due("15: its parts", x.parts(), 7);
        due("16: its fifth", x.part(4), 17);
        due("10: its rows", x.rows(), 6);
        due("14: its own", x.twin(), 1);
        due("20: the second", x.fuse(1), 3);
        due("20: twelve", x.thing(1, 1), 12);
        due("18: of three", x.fuses(), 2);
    }

    private static String fiveWays() {
        StringBuilder text = new StringBuilder("things 6;");
        for (int i = 1; i < 6; i++) {
            text.append("times ").append(i).append(' ').append(i).append(" gives 3 of 0 2 of ").append(i).append(';');
            for (int j = 1; j < i; j++) {
                text.append("times ").append(i).append(' ').append(j).append(" gives");
                for (int k = 1; k < 6; k++) {
                    text.append(k == i || k == j ? "" : " 1 of " + k);
                }
                text.append(';');
            }
        }
        return text.toString();
    }

    /** Two wreathed in two, and so on: six things, ORDER 32. */
    private static void chain() {
        ShareTable x = Told.ofTable("things 2; times 1 1 gives 1 of 0;");
        due("21: mark", x.mark(3, false), true);
        for (int things = 3; things <= 6; things++) {
            due("21: wreath", x.wreath(3), things);
        }
        due("21: no seventh", x.wreath(3), NONE);
        due("21: order", x.order(), 32);
        due("21: rows", x.rows(), 6);
        due("21: parts", x.parts(), 6);
    }

    private static void fuseRefused() {
        ShareTable x = new ShareTable();
        Told.table(x, "things 2; times 1 1 gives 1 of 0;");
        x.mark(0, false);
        Told.table(x, "things 2; times 1 1 gives 399 of 0 398 of 1;");
        due("20: 800 in all", x.wreath(0), 3);
        x.mark(1, false);
        Told.table(x, "things 2; times 1 1 gives 999 of 0 998 of 1;");
        due("20: 2,000 in all", x.wreath(0), 3);
        due("20: 1,600,000 in all", x.wreath(1), 5);
        due("20: order", x.order(), 1600000);
        due("20: greatest share", x.gives(4, 4, 0), 800000);
        due("18: it can be", x.fuses() > 1, true);
        due("19: all in one", x.fusing(0, 4), 1);
        due("20: but is refused", x.fuse(0), NONE);
        due("20: all stays", x.count(0), 5);
        due("21: a wreath is refused", x.wreath(0), NONE);
        due("21: all stays", x.count(1), 6);
    }

    private static void wreaths() {
        chain();
        ShareTable x = Told.ofTable(THREE_ROUND);
        due("21: nothing there", x.wreath(1), NONE);
        due("21: -1", x.wreath(-1), NONE);
        due("21: 4", x.wreath(4), NONE);
        x.mark(1, false);
        Told.scheme(x, FOUR_RING);
        due("21: ring and round", x.wreath(1), 5);
        due("21: its own", x.gives(1, 1, 2), 2);
        due("21: its own give none of the other", x.gives(1, 1, 3), 0);
        due("21: one and another's", x.gives(1, 3, 3), 2);
        due("21: another's and one", x.gives(4, 2, 4), 1);
        due("21: the other's", x.gives(3, 3, 4), 4);
        due("21: the other's of 0", x.gives(3, 4, 0), 4);
        due("21: and of each", x.gives(4, 3, 2), 4);
        due("21: reverse", x.thing(3, 0), 4);
        due("21: order", x.order(), 12);
        due("21: good", x.law(0), 0);
        due("21: too many things", x.wreath(1), NONE);
        Told.table(x, "things 2;");
        due("21: not good", x.wreath(1), NONE);
        x.mark(2, false);
        Told.table(x, "things 2; times 1 1 gives 1 of 0;");
        due("21: not good there", x.wreath(2), NONE);
        Told.table(x, "things 1;");
        due("21: of one thing", x.wreath(1), 3);
        due("21: is the other", x.gives(1, 1, 2), 1);
        x = Told.ofTable("things 2; times 1 1 gives 999 of 0 998 of 1;");
        x.mark(0, false);
        due("21: 999,000 can be", x.wreath(0), 3);
        due("21: it is there", x.gives(2, 2, 1), 999000);
        due("21: fused to 999,999", x.fuse(0), 2);
        due("21: the greatest share", x.gives(1, 1, 0), 999999);
        x.mark(1, false);
        Told.table(x, "things 1;");
        due("21: the greatest share stays", x.wreath(1), 2);
        Told.table(x, "things 2; times 1 1 gives 1 of 0;");
        due("21: twice the greatest is refused", x.wreath(1), NONE);
    }

    private static void kinds() {
        due("22: none", new ShareTable().kind(10, 3, 0, 1), 0);
        ShareTable x = new ShareTable();
        due("22: 1", x.kind(10, 3, 0, 2), 1);
        due("22: 1 if all go together", x.kind(10, 3, 3, 3), 1);
        due("22: 2", x.kind(7, 3, 1, 1), 2);
        due("22: 2 not, as the sum is 0", x.kind(13, 6, 2, 3), 0);
        due("22: 3", x.kind(7, 2, 1, 0), 3);
        due("22: 5", x.kind(28, 9, 0, 4), 5);
        due("22: v 3", x.kind(3, 1, 0, 0), NONE);
        due("22: v 101", x.kind(101, 1, 0, 0), NONE);
        due("22: v 100", x.kind(100, 22, 0, 6), 0);
        due("22: k 0", x.kind(10, 0, 0, 0), NONE);
        due("22: k v less 1", x.kind(10, 9, 0, 0), NONE);
        due("22: k v less 2", x.kind(10, 8, 6, 8), 0);
        due("22: l -1", x.kind(10, 3, -1, 0), NONE);
        due("22: l above k", x.kind(10, 3, 4, 0), NONE);
        due("22: m -1", x.kind(10, 3, 0, -1), NONE);
        due("22: m above k", x.kind(10, 3, 0, 4), NONE);
        due("22: far off", x.kind(Integer.MIN_VALUE, Integer.MAX_VALUE, Integer.MIN_VALUE, Integer.MAX_VALUE), NONE);
        int[] bad = {3, 101, -1, Integer.MAX_VALUE, Integer.MIN_VALUE};
        for (int b : bad) {
            due("23: v " + b, x.kinds(b, 0), NONE);
            due("24: v " + b, x.kept(b, 0), NONE);
        }
        due("23: reason -1", x.kinds(10, -1), NONE);
        due("23: reason 6", x.kinds(10, 6), NONE);
        due("24: i -1", x.kept(10, -1), NONE);
        due("24: i far off", x.kept(10, Integer.MAX_VALUE), NONE);
    }

    private static void walks() {
        ShareTable x = Told.ofScheme(FOUR_RING);
        due("25: none yet", x.walks(1, 0, 0), 1);
        due("25: none yet, elsewhere", x.walks(1, 0, 1), 0);
        due("25: ten steps", x.walks(1, 10, 2), 512);
        due("25: eleven", x.walks(1, 11, 2), NONE);
        due("25: -1", x.walks(1, -1, 2), NONE);
        int[] bad = {-1, 3, Integer.MAX_VALUE, Integer.MIN_VALUE};
        for (int b : bad) {
            due("25: by " + b, x.walks(b, 1, 0), NONE);
            due("25: at " + b, x.walks(0, 1, b), NONE);
            due("25: n " + b, x.walks(0, b == 3 ? 11 : b, 0), NONE);
            due("26: by " + b, x.mixed(b), NONE);
        }
        due("26: never", x.mixed(1), NONE);
        due("26: five in a ring", Told.ofScheme(FIVE_RING).mixed(1), 4);
        due("26: nine in a ring", Told.ofScheme("points 9 colour ring ;").mixed(1), 8);
        due("26: eleven in a ring", Told.ofScheme("points 11 colour ring ;").mixed(1), 10);
        due("26: two things", Told.ofScheme("points 12 colour not same ;").mixed(1), 2);
        x = Told.ofTable("things 2; times 1 1 gives 59 of 0 58 of 1;");
        due("25: the most", x.walks(1, 10, 1), 8518612555010690L);
        due("25: not good", Told.ofTable("things 2;").walks(0, 0, 0), NONE);
        due("26: not good", Told.ofTable("things 2;").mixed(0), NONE);
    }

    private static void undoneAndAgain() {
        ShareTable x = new ShareTable();
        due("27: nothing", x.undo(), false);
        due("28: nothing", x.again(), false);
        for (int n = 1; n <= 14; n++) {
            Told.table(x, "things 2; times 1 1 gives " + n + " of 0;");
            due("30: can be undone", x.count(1), Math.min(n, 12));
        }
        for (int n = 13; n >= 2; n--) {
            due("27: undone", x.undo(), true);
            due("27: the one before", x.order(), 1 + n);
            due("30: again", x.count(2), 14 - n);
        }
        due("27: only twelve", x.undo(), false);
        due("27: it stays", x.order(), 3);
        for (int n = 3; n <= 14; n++) {
            due("28: again", x.again(), true);
            due("28: the one behind", x.order(), 1 + n);
        }
        due("28: no more", x.again(), false);
        due("30: twelve again", x.count(1), 12);
        x.undo();
        Told.table(x, "things 2; times 1 1 gives");
        due("28: a fault is not done", x.count(2), 1);
        x.mark(0, false);
        due("28: a mark laid is not done", x.count(2), 1);
        x.mark(0, true);
        due("28: gone back is done", x.again(), false);
        due("28: gone back is done, too", x.count(2), 0);
        x.undo();
        x.fuse(0);
        due("28: not good, not done", x.count(2), 1);
        Told.scheme(x, FOUR_RING);
        due("28: another one is done", x.count(2), 0);
    }

    private static void marks() {
        ShareTable x = Told.ofScheme(FOUR_RING);
        for (int mark = 0; mark < 4; mark++) {
            due("29: nothing is on it", x.mark(mark, true), false);
        }
        due("29: nothing was done", x.count(1), 1);
        int[] bad = {-1, 4, Integer.MAX_VALUE, Integer.MIN_VALUE};
        for (int b : bad) {
            due("29: none such " + b, x.mark(b, false), false);
            due("29: none such, back " + b, x.mark(b, true), false);
        }
        due("29: laid", x.mark(3, false), true);
        due("29: laying is not done", x.count(1), 1);
        Told.table(x, "things 2;");
        due("29: laid over", x.mark(0, false), true);
        due("29: back", x.mark(3, true), true);
        due("29: it is there", x.count(0), 3);
        due("29: back is done", x.count(1), 3);
        due("29: undone", x.undo(), true);
        due("29: the table before", x.count(0), 2);
        due("29: undone", x.undo(), true);
        due("29: marks stay", x.mark(0, true), true);
        due("29: with their tables", x.count(0), 2);
        due("29: laid anew", x.mark(3, false), true);
        x.undo();
        due("29: back to the new one", x.mark(3, true), true);
        due("29: it is the new one", x.count(0), 2);
    }

    private static void counted() {
        ShareTable x = Told.ofTable(THREE_ROUND);
        due("30: things", x.count(0), 3);
        due("30: undo", x.count(1), 1);
        due("30: again", x.count(2), 0);
        Told.feed(x, "abc");
        due("30: signs", x.count(3), 3);
        int[] bad = {-1, 4, Integer.MAX_VALUE, Integer.MIN_VALUE};
        for (int b : bad) {
            due("30: what " + b, x.count(b), NONE);
        }
    }
}
