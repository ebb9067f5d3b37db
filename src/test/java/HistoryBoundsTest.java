/** The bounds of what can be UNDONE and done AGAIN, and of MARKS, each on both sides. */
final class HistoryBoundsTest {
    private static final int NONE = ShareTable.NONE;
    private static final int[] FAR_OFF = {1 << 30, Integer.MAX_VALUE, -2, Integer.MIN_VALUE};

    public static void main(String[] args) {
        newObject();
        lastTwelve();
        againUpToTwelve();
        backAndForth();
        whatIsDone();
        whatIsNotDone();
        tillAnotherIsDone();
        marksOnBothSides();
        marksHoldTheTable();
        goneBackIsDone();
        countArguments();
        Check.end("HistoryBoundsTest");
    }

    /** A new object after so many TABLES, the n-th of ORDER n + 1. */
    private static ShareTable after(int tables) {
        ShareTable x = new ShareTable();
        for (int n = 1; n <= tables; n++) {
            Check.due("done", Told.table(x, Told.twoThings(n)), 0);
        }
        return x;
    }

    private static void counts(String what, ShareTable x, int undo, int again) {
        Check.due(what + ": can be undone", x.count(1), undo);
        Check.due(what + ": can be done again", x.count(2), again);
    }

    /** "At first: one thing". */
    private static void newObject() {
        ShareTable x = new ShareTable();
        counts("new", x, 0, 0);
        Check.due("one thing", x.count(0), 1);
        Check.due("no signs", x.count(3), 0);
        Check.due("nothing can be undone", x.undo(), false);
        Check.due("nothing was undone", x.again(), false);
        Check.due("it stays", x.count(0), 1);
        for (int mark = 0; mark < 4; mark++) {
            Check.due("nothing on it", x.mark(mark, true), false);
        }
        counts("new still", x, 0, 0);
    }

    /** "can be UNDONE, the last 12": of 11, 12, 13 and 30. */
    private static void lastTwelve() {
        for (int tables : new int[] {1, 11, 12, 13, 14, 25, 30}) {
            ShareTable x = after(tables);
            int most = Math.min(tables, 12);
            counts("after " + tables, x, most, 0);
            for (int n = 1; n <= most; n++) {
                Check.due("undone " + n + " of " + tables, x.undo(), true);
                Check.due("the one before", x.order(), tables - n + 1);
                counts("undone " + n + " of " + tables, x, most - n, n);
            }
            Check.due("no more of " + tables, x.undo(), false);
            Check.due("it stays", x.order(), tables - most + 1);
            counts("no more", x, 0, most);
        }
    }

    /** "and done AGAIN": as many as were UNDONE. */
    private static void againUpToTwelve() {
        for (int undone = 0; undone <= 13; undone++) {
            ShareTable x = after(14);
            for (int n = 0; n < undone; n++) {
                x.undo();
            }
            int most = Math.min(undone, 12);
            for (int n = 1; n <= most; n++) {
                Check.due("again " + n + " of " + undone, x.again(), true);
                Check.due("the one behind", x.order(), 15 - most + n);
                counts("again " + n, x, 12 - most + n, most - n);
            }
            Check.due("no more", x.again(), false);
            Check.due("it stays", x.order(), 15);
            counts("no more", x, 12, 0);
        }
    }

    private static void backAndForth() {
        ShareTable x = after(13);
        for (int turn = 0; turn < 5; turn++) {
            for (int n = 0; n < 12; n++) {
                Check.due("back", x.undo(), true);
            }
            Check.due("the first that is left", x.order(), 2);
            Check.due("no farther back", x.undo(), false);
            for (int n = 0; n < 12; n++) {
                Check.due("forth", x.again(), true);
            }
            Check.due("the last", x.order(), 14);
            Check.due("no farther forth", x.again(), false);
        }
    }

    /** "each that made another TABLE (table, scheme, quotient, fuse, wreath)". */
    private static void whatIsDone() {
        ShareTable x = new ShareTable();
        Check.due("table", Told.table(x, Told.twoThings(1)), 0);
        counts("table", x, 1, 0);
        x.mark(0, false);
        Check.due("scheme", Told.scheme(x, "points 6 colour ring;"), 0);
        counts("scheme", x, 2, 0);
        Check.due("quotient", x.quotient(1), 2);
        counts("quotient", x, 3, 0);
        Check.due("wreath", x.wreath(0), 3);
        counts("wreath", x, 4, 0);
        Check.due("fuse", x.fuse(0), 2);
        counts("fuse", x, 5, 0);
        Check.due("mark, gone back to", x.mark(0, true), true);
        counts("mark, gone back to", x, 6, 0);
        int[] orders = {4, 4, 2, 6, 2, 1};
        for (int n = 0; n < 6; n++) {
            Check.due("undone " + n, x.undo(), true);
            Check.due("order then", x.order(), orders[n]);
        }
    }

    /** What is refused, and what only asks, is not DONE and leaves what can be done AGAIN. */
    private static void whatIsNotDone() {
        ShareTable x = after(3);
        x.undo();
        Told.table(x, "things 7;");
        Told.scheme(x, "points 2 colour 0;");
        Told.scheme(x, "points 13");
        x.quotient(9);
        x.fuse(9);
        x.wreath(0);
        x.wreath(9);
        x.mark(0, true);
        x.mark(9, true);
        x.mark(9, false);
        x.mark(1, false);
        x.feed(1, 2, ' ');
        x.rows();
        x.parts();
        x.fuses();
        x.kinds(10, 0);
        x.walks(1, 1, 1);
        counts("nothing was done", x, 2, 1);
        Check.due("again", x.again(), true);
        Check.due("the one behind", x.order(), 4);
    }

    private interface Doing {
        void on(ShareTable x);
    }

    private static void clears(String what, Doing doing) {
        ShareTable x = after(3);
        x.mark(2, false);
        x.undo();
        x.undo();
        Check.due(what + ": two can be done again", x.count(2), 2);
        doing.on(x);
        counts(what, x, 2, 0);
        Check.due(what + ": not again", x.again(), false);
        Check.due(what + ": undone", x.undo(), true);
        Check.due(what + ": the table of then", x.order(), 2);
        Check.due(what + ": again", x.again(), true);
    }

    /** "till another one is done", by each that does. */
    private static void tillAnotherIsDone() {
        clears("table", x -> Told.table(x, "things 3;"));
        clears("scheme", x -> Told.scheme(x, "points 4 colour ring;"));
        clears("quotient", x -> x.quotient(1));
        clears("fuse", x -> x.fuse(0));
        clears("wreath", x -> x.wreath(2));
        clears("mark", x -> x.mark(2, true));
    }

    /** "MARKS 0 to 3"; "false: none such, nothing is on it (back)". */
    private static void marksOnBothSides() {
        for (int mark = -1; mark <= 4; mark++) {
            boolean fits = mark >= 0 && mark <= 3;
            ShareTable x = after(1);
            Check.due("nothing on " + mark, x.mark(mark, true), false);
            Check.due("laid " + mark, x.mark(mark, false), fits);
            Check.due("laid over " + mark, x.mark(mark, false), fits);
            counts("laid " + mark, x, 1, 0);
            for (int other = 0; other < 4; other++) {
                if (other != mark) {
                    Check.due("nothing on another than " + mark, x.mark(other, true), false);
                }
            }
            Check.due("gone back to " + mark, x.mark(mark, true), fits);
            counts("gone back to " + mark, x, fits ? 2 : 1, 0);
        }
        ShareTable x = new ShareTable();
        for (int far : FAR_OFF) {
            Check.due("mark " + far, x.mark(far, false), false);
            Check.due("mark, back " + far, x.mark(far, true), false);
        }
        counts("far off", x, 0, 0);
    }

    /** "MARKS 0 to 3 hold the TABLE", also when it can be UNDONE no more, or was UNDONE. */
    private static void marksHoldTheTable() {
        ShareTable x = new ShareTable();
        for (int mark = 0; mark < 4; mark++) {
            Told.table(x, Told.twoThings(10 + mark));
            x.mark(mark, false);
        }
        for (int n = 0; n < 20; n++) {
            Told.table(x, "things 1;");
        }
        for (int mark = 3; mark >= 0; mark--) {
            Check.due("gone back to " + mark, x.mark(mark, true), true);
            Check.due("it holds its table", x.order(), 11 + mark);
        }
        x.undo();
        x.mark(0, false);
        x.undo();
        Told.table(x, "things 1;");
        Check.due("gone back to one that was undone", x.mark(0, true), true);
        Check.due("it holds its table", x.order(), 12);
        Check.due("a mark laid on a mark's table", x.mark(3, false), true);
        Check.due("changes no other", x.mark(2, true), true);
        Check.due("holds its own", x.order(), 13);
    }

    /** "gone back to, which is DONE, too": also at 12, and to the TABLE that there is. */
    private static void goneBackIsDone() {
        ShareTable x = after(12);
        x.mark(0, false);
        counts("twelve", x, 12, 0);
        Check.due("back to the same", x.mark(0, true), true);
        counts("twelve still", x, 12, 0);
        for (int n = 0; n < 12; n++) {
            Check.due("undone", x.undo(), true);
        }
        Check.due("one farther on", x.order(), 2);
        counts("all", x, 0, 12);
        x.mark(0, true);
        counts("gone back to", x, 1, 0);
        Check.due("the marked one", x.order(), 13);
    }

    /** "What 0: things .. 3: signs on the TAPE. NONE for another what". */
    private static void countArguments() {
        ShareTable x = after(2);
        x.undo();
        Told.feed(x, "abcd");
        int[] due = {2, 1, 1, 4};
        for (int what = -1; what <= 4; what++) {
            Check.due("what " + what, x.count(what), what >= 0 && what < 4 ? due[what] : NONE);
        }
        for (int far : FAR_OFF) {
            Check.due("what " + far, x.count(far), NONE);
        }
    }
}
