import java.util.NoSuchElementException;
import java.util.Random;

/** Any arguments in any state: nothing is thrown but what the document says, and where it says so. */
final class WildTest {
    private static final int[] EDGES = {
        -1, 0, 1, 2, 3, 4, 5, 6, 7, 10, 11, 12, 31, 32, 35, 36, 52, 60, 99, 100, 101, 215, 216, 1000, 1 << 16,
        Integer.MAX_VALUE, Integer.MIN_VALUE, Integer.MAX_VALUE - 5, Integer.MIN_VALUE + 5, 357913942, -357913942, 715827883,
    };

    private final Random random;
    private final Texts texts;
    private final ShareTable x = new ShareTable();
    private final Oracle.T like = new Oracle.T(1);

    private WildTest(int seed) {
        random = new Random(seed);
        texts = new Texts(random);
    }

    public static void main(String[] args) {
        for (int seed = 1; seed <= 300; seed++) {
            WildTest test = new WildTest(seed);
            for (int call = 0; call < 512; call++) {
                Check.due("seed " + seed + " call " + call + " threw", test.threw(), false);
            }
        }
        Check.end("WildTest");
    }

    private int any() {
        return random.nextInt(8) == 0 ? random.nextInt() : EDGES[random.nextInt(random.nextBoolean() ? 10 : EDGES.length)];
    }

    /** Whether a call threw where the document says nothing of it. */
    private boolean threw() {
        int which = random.nextInt(30);
        try {
            if (which == 0) {
                x.row(any(), any());
            } else if (which == 1) {
                x.dual(any(), any(), any(), any());
            }
        } catch (NoSuchElementException e) {
            return false;
        }
        try {
            call(which);
            return false;
        } catch (RuntimeException e) {
            System.out.println(which + ": " + e);
            return true;
        }
    }

    private void call(int which) {
        switch (which) {
            case 2: x.thing(any(), any()); break;
            case 3: x.law(any()); break;
            case 4: x.counts(any(), any()); break;
            case 5: x.part(any()); break;
            case 6: x.quotient(any()); break;
            case 7: x.fusing(any(), any()); break;
            case 8: x.fuse(any()); break;
            case 9: case 10: x.wreath(any()); break;
            case 11: x.kind(any(), any(), any(), any()); break;
            case 12: x.kinds(any(), any()); break;
            case 13: x.kept(any(), any()); break;
            case 14: x.walks(any(), any(), any()); break;
            case 15: x.mixed(any()); break;
            case 16: x.undo(); break;
            case 17: x.again(); break;
            case 18: case 19: x.mark(any(), random.nextBoolean()); break;
            case 20: x.count(any()); break;
            case 21: x.gives(any(), any(), any()); break;
            case 22: x.twin(); break;
            case 23: x.fuses(); x.parts(); x.rows(); x.order(); x.why(); break;
            case 24: x.feed(random.nextLong(), random.nextLong(), random.nextLong()); break;
            case 25: x.table(); break;
            case 26: x.scheme(); break;
            default: read(random.nextBoolean() ? texts.any(like) : texts.soup());
        }
    }

    private void read(String text) {
        Told.feed(x, text);
        if (text.startsWith("things") || random.nextInt(9) == 0) {
            x.table();
        } else {
            x.scheme();
        }
    }
}
