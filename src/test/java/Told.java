import java.util.NoSuchElementException;

/** Calls on a ShareTable in a form that tests can write down shortly. */
final class Told {
    /** What a call counts that throws NoSuchElementException. */
    static final long THROWS = Long.MIN_VALUE;

    private Told() {
    }

    static int feed(ShareTable x, String text) {
        int length = x.count(3);
        for (int at = 0; at < text.length(); at += 24) {
            length = x.feed(bytes(text, at), bytes(text, at + 8), bytes(text, at + 16));
        }
        return length;
    }

    static long bytes(String text, int at) {
        long bytes = 0;
        for (int i = at; i < at + 8; i++) {
            bytes = bytes << 8 | (i < text.length() ? text.charAt(i) & 255 : 0);
        }
        return bytes;
    }

    static int table(ShareTable x, String text) {
        feed(x, text);
        return x.table();
    }

    static int scheme(ShareTable x, String text) {
        feed(x, text);
        return x.scheme();
    }

    /** The FAULT of a text that a new object reads as a TABLE. */
    static int table(String text) {
        return table(new ShareTable(), text);
    }

    /** The FAULT of a text that a new object reads as a SCHEME. */
    static int scheme(String text) {
        return scheme(new ShareTable(), text);
    }

    static ShareTable ofTable(String text) {
        ShareTable x = new ShareTable();
        Check.due("table of " + text, table(x, text), 0);
        return x;
    }

    static ShareTable ofScheme(String text) {
        ShareTable x = new ShareTable();
        Check.due("scheme of " + text, scheme(x, text), 0);
        return x;
    }

    /** Two things, the other so large; GOOD. */
    static String twoThings(int size) {
        return "things 2; times 1 1 gives " + size + " of 0" + (size == 1 ? "" : " " + (size - 1) + " of 1") + ";";
    }

    static long row(ShareTable x, int row, int thing) {
        try {
            return x.row(row, thing);
        } catch (NoSuchElementException e) {
            return THROWS;
        }
    }

    static long dual(ShareTable x, int a, int b, int c, int what) {
        try {
            return x.dual(a, b, c, what);
        } catch (NoSuchElementException e) {
            return THROWS;
        }
    }
}
