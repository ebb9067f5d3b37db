import java.util.Random;

/** Long runs of calls, each answer compared with the Oracle's; the seeds are fixed, so each run is always the same. */
final class RunsTest {
    private static final int CALLS = 512;
    private static final int RUNS = Integer.getInteger("runs", 400);

    private final Random random;
    private final Texts texts;
    private final ShareTable x = new ShareTable();
    private final Oracle o = new Oracle();
    private final int seed;
    private int calls = 0;

    private RunsTest(int seed) {
        this.seed = seed;
        this.random = new Random(seed);
        this.texts = new Texts(random);
    }

    public static void main(String[] args) {
        for (int seed = 1; seed <= RUNS && Check.isClean(); seed++) {
            new RunsTest(seed).run();
        }
        Check.end("RunsTest");
    }

    private void run() {
        while (calls < CALLS) {
            switch (random.nextInt(8)) {
                case 0:
                    read();
                    break;
                case 1:
                    change();
                    break;
                case 2:
                    sift();
                    break;
                default:
                    ask();
            }
        }
    }

    private int near(int most) {
        switch (random.nextInt(40)) {
            case 0:
                return -1;
            case 1:
                return most;
            case 2:
                return new int[] {Integer.MIN_VALUE, Integer.MAX_VALUE, 1 << 30, -1 << 30, 216, 36, 6}[random.nextInt(7)];
            default:
                return random.nextInt(Math.max(1, most));
        }
    }

    private int thing() {
        return near((int) o.count(0));
    }

    private void due(String call, long got, long want) {
        calls++;
        Check.due("seed " + seed + " call " + calls + ": " + call, got, want);
    }

    private void read() {
        String text = random.nextInt(5) == 0 ? texts.soup() : texts.any(o.now());
        if (random.nextInt(60) == 0) {
            text = text.repeat(30);
        }
        if (text.length() > 1100) {
            text = text.substring(0, 1100);
        }
        for (int at = 0; at < text.length(); at += 24) {
            feed(Told.bytes(text, at), Told.bytes(text, at + 8), Told.bytes(text, at + 16));
        }
        if (random.nextInt(20) == 0) {
            feed(random.nextLong(), random.nextLong(), random.nextLong());
        }
        boolean asScheme = text.startsWith("po") ^ random.nextInt(30) == 0;
        if (asScheme) {
            due("scheme of " + text, x.scheme(), o.scheme());
            due("why", x.why(), o.why());
        } else {
            due("table of " + text, x.table(), o.table());
        }
    }

    private void feed(long a, long b, long c) {
        due("feed", x.feed(a, b, c), o.feed(a, b, c));
    }

    private void change() {
        int mark = near(4);
        switch (random.nextInt(7)) {
            case 0:
                due("undo", x.undo() ? 1 : 0, o.undo());
                break;
            case 1:
                due("again", x.again() ? 1 : 0, o.again());
                break;
            case 2:
                boolean back = random.nextInt(3) == 0;
                due("mark " + mark + " " + back, x.mark(mark, back) ? 1 : 0, o.mark(mark, back));
                break;
            case 3: case 4:
                due("wreath " + mark, x.wreath(mark), o.wreath(mark));
                break;
            case 5:
                // the last PART is the whole: taken seldom, as nothing but one thing is left then
                int part = near((int) o.parts() - (random.nextInt(4) == 0 ? 0 : 1));
                due("quotient " + part, x.quotient(part), o.quotient(part));
                break;
            default:
                int fusing = (int) o.fuses() - 1 - near((int) o.fuses());
                due("fuse " + fusing, x.fuse(fusing), o.fuse(fusing));
        }
    }

    private void sift() {
        int v = random.nextInt(8) == 0 ? near(101) : 4 + random.nextInt(97);
        int k = 1 + random.nextInt(Math.max(1, Math.min(98, v)));
        int l = near(k + 1);
        int others = v - k - 1;
        int m = random.nextInt(3) > 0 && others > 0 && l >= 0 && l < k ? k * (k - l - 1) / others : near(k + 1);
        switch (random.nextInt(3)) {
            case 0:
                due("kind " + v + " " + k + " " + l + " " + m, x.kind(v, k, l, m), o.kind(v, k, l, m));
                break;
            case 1:
                due("kinds " + v, x.kinds(v, l % 7), o.kinds(v, l % 7));
                break;
            default:
                int i = near((int) o.kinds(v, 0));
                due("kept " + v + " " + i, x.kept(v, i), o.kept(v, i));
        }
    }

    private void ask() {
        int i = thing();
        int j = thing();
        int k = thing();
        int row = near((int) o.rows());
        int what = near(2);
        switch (random.nextInt(18)) {
            case 0: case 1:
                due("gives", x.gives(i, j, k), o.gives(i, j, k));
                break;
            case 2:
                due("thing", x.thing(i, what), o.thing(i, what));
                break;
            case 3:
                due("order", x.order(), o.order());
                break;
            case 4: case 5:
                int place = near(4);
                due("law " + place, x.law(place), o.law(place));
                break;
            case 6:
                due("rows", x.rows(), o.rows());
                break;
            case 7:
                due("row " + row + " " + i, Told.row(x, row, i), o.row(row, i));
                break;
            case 8:
                due("counts " + row + " " + what, x.counts(row, what), o.counts(row, what));
                break;
            case 9: case 10:
                due("dual " + i + " " + j + " " + k + " " + what, Told.dual(x, i, j, k, what), o.dual(i, j, k, what));
                break;
            case 11:
                due("twin", x.twin(), o.twin());
                break;
            default:
                askMore(i, j);
        }
    }

    private void askMore(int i, int j) {
        switch (random.nextInt(7)) {
            case 0:
                due("parts", x.parts(), o.parts());
                break;
            case 1:
                int part = near((int) o.parts());
                due("part " + part, x.part(part), o.part(part));
                break;
            case 2:
                due("fuses", x.fuses(), o.fuses());
                break;
            case 3:
                int fusing = near((int) o.fuses());
                due("fusing " + fusing + " " + i, x.fusing(fusing, i), o.fusing(fusing, i));
                break;
            case 4:
                int n = near(11);
                due("walks " + i + " " + n + " " + j, x.walks(i, n, j), o.walks(i, n, j));
                break;
            case 5:
                due("mixed " + i, x.mixed(i), o.mixed(i));
                break;
            default:
                int what = near(4);
                due("count " + what, x.count(what), o.count(what));
        }
    }
}
