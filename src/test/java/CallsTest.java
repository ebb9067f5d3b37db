/** An object's use ends with its 512th call: behind a short beginning each call is made up to it, and compared with the Oracle. */
final class CallsTest {
    private static final int CALLS = 512;
    private static final String SIX = "things 6;times 1 1 gives 3 of 0 2 of 1;times 2 1 gives 1 of 3 1 of 4 1 of 5;"
        + "times 2 2 gives 3 of 0 2 of 2;times 3 1 gives 1 of 2 1 of 4 1 of 5;times 3 2 gives 1 of 1 1 of 4 1 of 5;"
        + "times 3 3 gives 3 of 0 2 of 3;times 4 1 gives 1 of 2 1 of 3 1 of 5;times 4 2 gives 1 of 1 1 of 3 1 of 5;"
        + "times 4 3 gives 1 of 1 1 of 2 1 of 5;times 4 4 gives 3 of 0 2 of 4;times 5 1 gives 1 of 2 1 of 3 1 of 4;"
        + "times 5 2 gives 1 of 1 1 of 3 1 of 4;times 5 3 gives 1 of 1 1 of 2 1 of 4;times 5 4 gives 1 of 1 1 of 2 1 of 3;"
        + "times 5 5 gives 3 of 0 2 of 5;";

    private final ShareTable x = new ShareTable();
    private final Oracle o = new Oracle();
    private final String name;
    private int calls = 0;

    private CallsTest(String name) {
        this.name = name;
    }

    public static void main(String[] args) {
        for (int which = 0; which < 32; which++) {
            new CallsTest("call " + which).run(which);
        }
        Check.end("CallsTest");
    }

    private void run(int which) {
        read(SIX, false);
        due(x.mark(0, false), o.mark(0, false));
        read("points 4 colour ring;", true);
        due(x.mark(1, false), o.mark(1, false));
        due(x.mark(0, true), o.mark(0, true));
        for (int n = 0; calls < CALLS; n++) {
            if (which < 15) {
                ask(which, n);
            } else {
                change(which, n);
            }
        }
        Check.due(name + " used to its end", calls, CALLS);
    }

    private void due(long got, long want) {
        calls++;
        Check.due(name + " as call " + calls, got, want);
    }

    private void due(boolean got, long want) {
        due(got ? 1 : 0, want);
    }

    private void read(String text, boolean asScheme) {
        for (int at = 0; at < text.length() && calls < CALLS; at += 24) {
            long a = Told.bytes(text, at);
            long b = Told.bytes(text, at + 8);
            long c = Told.bytes(text, at + 16);
            due(x.feed(a, b, c), o.feed(a, b, c));
        }
        if (calls < CALLS) {
            if (asScheme) {
                due(x.scheme(), o.scheme());
            } else {
                due(x.table(), o.table());
            }
        }
    }

    private void ask(int which, int n) {
        int i = n % 8 - 1;
        int j = n / 8 % 8 - 1;
        int k = n / 64 - 1;
        switch (which) {
            case 0: due(x.gives(i, j, k), o.gives(i, j, k)); break;
            case 1: due(x.thing(i, j), o.thing(i, j)); break;
            case 2: due(x.order(), o.order()); break;
            case 3: due(x.law(i), o.law(i)); break;
            case 4: due(x.rows(), o.rows()); break;
            case 5: due(Told.row(x, i, j), o.row(i, j)); break;
            case 6: due(x.counts(i, n % 4 - 1), o.counts(i, n % 4 - 1)); break;
            case 7: due(Told.dual(x, i, j, k, n % 2), o.dual(i, j, k, n % 2)); break;
            case 8: due(x.twin(), o.twin()); break;
            case 9: due(x.part(i), o.part(i)); break;
            case 10: due(x.fusing(n / 8 - 1, i), o.fusing(n / 8 - 1, i)); break;
            case 11: due(x.walks(i, n / 8 % 13 - 1, k), o.walks(i, n / 8 % 13 - 1, k)); break;
            case 12: due(x.mixed(i), o.mixed(i)); break;
            case 13: due(x.kinds(n / 5, i), o.kinds(n / 5, i)); break;
            default: due(x.kept(100 - n % 98, n / 8 - 1), o.kept(100 - n % 98, n / 8 - 1));
        }
    }

    private void change(int which, int n) {
        switch (which) {
            case 15: due(x.undo(), o.undo()); break;
            case 16: due(x.again(), o.again()); break;
            case 17: due(n % 3 < 2 ? x.undo() : x.again(), n % 3 < 2 ? o.undo() : o.again()); break;
            case 18: due(x.mark(n % 6 - 1, n % 7 < 4), o.mark(n % 6 - 1, n % 7 < 4)); break;
            case 19: due(x.feed(n, ' ', ~n), o.feed(n, ' ', ~n)); break;
            case 20: due(x.table(), o.table()); break;
            case 21: due(x.scheme(), o.scheme()); break;
            case 22: due(n % 2 == 0 ? x.fuse(n / 2 % 53) : x.mark(0, true) ? 1 : 0, n % 2 == 0 ? o.fuse(n / 2 % 53) : o.mark(0, true)); break;
            case 23: due(n % 2 == 0 ? x.quotient(n / 2 % 8) : x.undo() ? 1 : 0, n % 2 == 0 ? o.quotient(n / 2 % 8) : o.undo()); break;
            case 24: due(n % 2 == 0 ? x.wreath(1) : x.mark(1, true) ? 1 : 0, n % 2 == 0 ? o.wreath(1) : o.mark(1, true)); break;
            case 25: read(n % 2 == 0 ? "things " + n % 9 + ";" : "things 3;reverse 1 2;", false); break;
            case 26: read("points " + n % 14 + " colour ring;", true); break;
            case 27: due(n % 2 == 0 ? x.fuses() : x.fuse(n % 9), n % 2 == 0 ? o.fuses() : o.fuse(n % 9)); break;
            case 28: due(x.count(n % 6 - 1), o.count(n % 6 - 1)); break;
            case 29: due(x.parts(), o.parts()); break;
            case 30: due(x.kind(3 + n / 5, 1 + n % 9, n % 3, n % 4), o.kind(3 + n / 5, 1 + n % 9, n % 3, n % 4)); break;
            default: due(x.why(), o.why());
        }
    }
}
