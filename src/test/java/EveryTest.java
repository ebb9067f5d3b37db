/**
 * Each member of some families of TABLES against the Oracle: two things, three things with shares up to 2,
 * three things that are their own REVERSES, with an ORDER up to 61, and COLOURS that hang on y less x round the ring.
 */
final class EveryTest {
    private static final int CALLS = 512;
    private static final int GROUPS = 6;
    private static final String[] PAIRS = {"times 1 1 gives", "times 1 2 gives", "times 2 2 gives"};

    private final ShareTable x = new ShareTable();
    private final Oracle o = new Oracle();
    private final String text;
    private int calls = 0;

    private EveryTest(String text) {
        this.text = text;
        for (int at = 0; at < text.length(); at += 24) {
            long a = Told.bytes(text, at);
            long b = Told.bytes(text, at + 8);
            long c = Told.bytes(text, at + 16);
            due("feed", x.feed(a, b, c), o.feed(a, b, c));
        }
        if (text.startsWith("points")) {
            due("scheme", x.scheme(), o.scheme());
            due("why", x.why(), o.why());
        } else {
            due("table", x.table(), o.table());
        }
    }

    public static void main(String[] args) {
        twoThings();
        threeThings();
        threeOfTheirOwn();
        for (int points = 1; points <= 8; points++) {
            round(points);
        }
        Check.end("EveryTest");
    }

    private void due(String call, long got, long want) {
        calls++;
        Check.due(text + ": " + call, got, want);
    }

    private static void twoThings() {
        int[] shares = {0, 1, 2, 3, 4, 5, 28, 29, 30, 58, 59, 60, 61, 997, 998, 999};
        for (int of0 : shares) {
            for (int of1 : shares) {
                compare("things 2;times 1 1 gives" + share(of0, 0) + share(of1, 1) + ";");
            }
        }
    }

    private static String share(int n, int of) {
        return n == 0 ? "" : " " + n + " of " + of;
    }

    private static void threeThings() {
        for (int number = 0; number < 19683; number++) {
            StringBuilder told = new StringBuilder("things 3;");
            int rest = number;
            for (String pair : PAIRS) {
                told.append(pair);
                for (int of = 0; of < 3; of++) {
                    told.append(share(rest % 3, of));
                    rest /= 3;
                }
                told.append(';');
            }
            compare(told.toString());
            compare(told + "reverse 1 2;");
        }
    }

    /** Thing 1 of SIZE k gives with itself k of 0, l of 1 and m of 2; all else follows from that. */
    private static void threeOfTheirOwn() {
        for (int v = 3; v <= 61; v++) {
            for (int k = 1; k <= v - 2; k++) {
                for (int l = 0; l < k; l++) {
                    int product = k * (k - l - 1);
                    int m = product / (v - k - 1);
                    boolean fits = product % (v - k - 1) == 0 && m <= k && v - 2 - 2 * k + m >= 0 && v - 2 * k + l >= 0;
                    if (fits) {
                        compare("things 3;" + PAIRS[0] + share(k, 0) + share(l, 1) + share(m, 2) + ";"
                            + PAIRS[1] + share(k - l - 1, 1) + share(k - m, 2) + ";"
                            + PAIRS[2] + share(v - k - 1, 0) + share(v - 2 * k + l, 1) + share(v - 2 - 2 * k + m, 2) + ";");
                    }
                }
            }
        }
    }

    /** Each way to colour what y is ahead of x; colours come in the order of their first use. */
    private static void round(int points) {
        paint(points, new int[points], 1, 0);
    }

    private static void paint(int points, int[] colours, int ahead, int greatest) {
        if (ahead == points) {
            StringBuilder told = new StringBuilder("points " + points + " colour 0");
            for (int d = 1; d < points; d++) {
                told.append("+(y-x+").append(points).append("*(y<x)=").append(d).append(")*").append(colours[d]);
            }
            compare(told.append(';').toString());
            return;
        }
        for (int next = 1; next <= greatest + 1 && next <= 6; next++) {
            colours[ahead] = next;
            paint(points, colours, ahead + 1, Math.max(greatest, next));
        }
    }

    /** An object has 512 calls, so each group of questions has an object of its own. */
    private static void compare(String text) {
        EveryTest first = new EveryTest(text);
        for (int what = -1; what <= 4; what++) {
            first.due("law " + what, first.x.law(what), first.o.law(what));
        }
        boolean isRead = first.o.count(1) == 1;
        boolean isGood = first.o.law(0) == 0;
        for (int group = 0; group < GROUPS && isRead && isGood; group++) {
            EveryTest test = new EveryTest(text);
            test.ask(group);
            Check.due(text + ": within 512 calls", test.calls <= CALLS, true);
        }
    }

    private void ask(int group) {
        switch (group) {
            case 0:
                askTable();
                break;
            case 1:
                askRows();
                break;
            case 2:
                askDuals();
                break;
            case 3:
                askWalks();
                break;
            case 4:
                askParts();
                break;
            default:
                askFusings();
        }
    }

    private void askTable() {
        int things = things();
        due("things", x.count(0), things);
        due("order", x.order(), o.order());
        for (int i = 0; i < things; i++) {
            due("reverse " + i, x.thing(i, 0), o.thing(i, 0));
            due("size " + i, x.thing(i, 1), o.thing(i, 1));
            for (int j = 0; j < things; j++) {
                for (int k = 0; k < things; k++) {
                    due("gives " + i + " " + j + " " + k, x.gives(i, j, k), o.gives(i, j, k));
                }
            }
        }
    }

    private int things() {
        return (int) o.count(0);
    }

    private void askRows() {
        due("rows", x.rows(), o.rows());
        due("twin", x.twin(), o.twin());
        for (int row = 0; row <= things(); row++) {
            due("above " + row, x.counts(row, 0), o.counts(row, 0));
            due("below " + row, x.counts(row, 1), o.counts(row, 1));
            for (int i = 0; i <= things(); i++) {
                due("row " + row + " " + i, Told.row(x, row, i), o.row(row, i));
            }
        }
    }

    private void askDuals() {
        for (int a = 0; a < things(); a++) {
            for (int b = 0; b < things(); b++) {
                for (int c = 0; c < things(); c++) {
                    for (int what = 0; what < 2; what++) {
                        due("dual " + a + " " + b + " " + c + " " + what, Told.dual(x, a, b, c, what), o.dual(a, b, c, what));
                    }
                }
                // six things have 432 numbers, more than fit behind a long text
                if (calls > CALLS - 2 * things()) {
                    return;
                }
            }
        }
    }

    private void askWalks() {
        for (int by = 0; by < things(); by++) {
            due("mixed " + by, x.mixed(by), o.mixed(by));
            for (int n = 0; n <= 10; n += things() > 4 ? 3 : 1) {
                for (int at = 0; at < things(); at++) {
                    due("walks " + by + " " + n + " " + at, x.walks(by, n, at), o.walks(by, n, at));
                }
            }
        }
    }

    private void askParts() {
        due("parts", x.parts(), o.parts());
        for (int i = 0; i <= o.parts(); i++) {
            due("part " + i, x.part(i), o.part(i));
        }
        for (int i = 0; i < o.parts(); i++) {
            due("quotient " + i, x.quotient(i), o.quotient(i));
            glance();
            if (o.count(1) > 1) {
                due("undo", x.undo() ? 1 : 0, o.undo());
            }
        }
    }

    private void askFusings() {
        due("fuses", x.fuses(), o.fuses());
        for (int i = 0; i < o.fuses() && calls < CALLS - 70; i++) {
            for (int thing = 0; thing < things(); thing++) {
                due("fusing " + i + " " + thing, x.fusing(i, thing), o.fusing(i, thing));
            }
            due("fuse " + i, x.fuse(i), o.fuse(i));
            glance();
            if (o.count(1) > 1) {
                due("undo", x.undo() ? 1 : 0, o.undo());
            }
        }
    }

    /** Of what was made, so much that it is seen which it is. */
    private void glance() {
        int last = things() - 1;
        due("made things", x.count(0), things());
        due("made order", x.order(), o.order());
        due("made law", x.law(0), o.law(0));
        due("made rows", x.rows(), o.rows());
        for (int j = 0; j <= last; j++) {
            due("made reverse " + j, x.thing(j, 0), o.thing(j, 0));
            for (int k = 0; k <= last; k++) {
                due("made gives " + last + " " + j + " " + k, x.gives(last, j, k), o.gives(last, j, k));
            }
        }
    }
}
