import java.util.Random;

/** Texts for the TAPE, good and bad. */
final class Texts {
    /** The turns of a triangle, of which some two give another thing in the other order. */
    static final String SIX_IN_TWO_ORDERS = "points 6 colour ( x < 3 ) * ( y < 3 ) * ( y - x + 3 * ( y < x ) ) "
        + "+ not ( x < 3 ) * not ( y < 3 ) * ( x - y + 3 * ( x < y ) ) "
        + "+ ( ( x < 3 ) + ( y < 3 ) = 1 ) * ( 3 + far - 3 * ( 2 < far ) ) ;";

    private static final String[] SCHEMES = {
        "points 1 colour 0 ;", "points 2 colour not same ;", "points 4 colour ring ;", "points 5 colour ring ;",
        "points 6 colour ring ;", "points 7 colour ring;", "points 8 colour ring ;", "points 9 colour ring ;",
        "points 10 colour ring ;", "points 11 colour ring ;", "points 3 colour y - x + 3 * ( y < x ) ;",
        "points 4 colour y - x + 4 * ( y < x ) ;", "points 5 colour y - x + 5 * ( y < x ) ;",
        "points 6 colour y - x + 6 * ( y < x ) ;", "points 12 colour same = 0 ;",
        "points 6 colour ( same = 0 ) + ( ( x < 3 ) = ( y < 3 ) = 0 ) ;",
        "points 6 colour not same + not ( ( x < 3 ) = ( y < 3 ) ) ;",
        "points 12 colour not same + not ( ( x < 6 ) = ( y < 6 ) ) ;",
        "points 9 colour not same * ( 1 + not ( ( x < 3 ) = ( y < 3 ) and ( ( 5 < x ) = ( 5 < y ) ) ) ) ;",
        "points 4 colour x + y - 2 * x * y * 0 - 0 ;",
        "points 4 colour far * ( far = 2 ) + ( far = 1 ) * ( 1 + 2 * ( ( x = 1 or x = 2 ) and ( y = 1 or y = 2 ) ) ) + 3 * ( far = 3 ) ;",
        "points 8 colour 1 * ( ring = 1 or ring = 3 ) + 2 * ( ring = 2 ) + 3 * ( ring = 4 ) ;",
        "points 5 colour ring ;", "points 10 colour not same + ( far = 5 ) ;",
        "points 12 colour not same + ( ring = 6 ) + 2 * ( ring = 3 ) ;",
        "points 3 colour ( 1 - same ) * ( 1 + ( x = 0 ) ) ;", "points 4 colour not same + ( x < y ) ;", SIX_IN_TWO_ORDERS,
    };

    private static final String[] WORDS = {
        "things", "times", "gives", "of", "reverse", "points", "colour", "and", "or", "not", "x", "y", "far", "ring",
        "same", "(", ")", "<", "=", "+", "-", "*", ";", "0", "1", "2", "3", "5", "6", "7", "12", "13", "999", "1000",
        "9999", "12345", "abcdefgh", "abcdefghi", "z", "X", "#", "!", "00", "0003",
    };

    private final Random random;

    Texts(Random random) {
        this.random = random;
    }

    private int below(int n) {
        return random.nextInt(n);
    }

    String any(Oracle.T now) {
        switch (below(16)) {
            case 0: case 1:
                return SCHEMES[below(SCHEMES.length)];
            case 2:
                return "points " + (1 + below(12)) + " colour " + expression(3) + " ;";
            case 3:
                return mutated("points " + below(14) + " colour " + expression(below(7)) + ";");
            case 4:
                return mutated(told(now));
            case 5: case 6:
                return told(ofKind());
            case 7:
                return told(now);
            case 8:
                return wild();
            case 9:
                return told(twoThings(bigOrSmall()));
            case 10:
                return told(group());
            case 11: case 12: case 13:
                return told(product());
            case 14:
                return told(threeInPairs());
            default:
                return mutated(wild());
        }
    }

    /** A text of up to so many random tokens. */
    String soup() {
        StringBuilder text = new StringBuilder(below(2) == 0 ? "things 4;" : "points 5 colour ");
        for (int n = below(20); n >= 0; n--) {
            text.append(WORDS[below(WORDS.length)]).append(below(3) == 0 ? "" : " ");
        }
        return text.toString();
    }

    private String expression(int depth) {
        if (depth <= 0 || below(4) == 0) {
            String[] facts = {"x", "y", "far", "ring", "same", "0", "1", "2", "3", "9999"};
            return facts[below(facts.length)];
        }
        String[] joins = {"+", "-", "*", "<", "=", "and", "or", "+", "*"};
        switch (below(4)) {
            case 0:
                return "not " + expression(depth - 1);
            case 1:
                return "( " + expression(depth - 1) + " )";
            default:
                return expression(depth - 1) + " " + joins[below(joins.length)] + " " + expression(depth - 1);
        }
    }

    private String told(Oracle.T t) {
        StringBuilder text = new StringBuilder("things " + t.n + ";");
        for (int i = 1; i < t.n; i++) {
            for (int j = 1; j <= i; j++) {
                text.append("times ").append(i).append(' ').append(j).append(" gives");
                for (int k = 0; k < t.n; k++) {
                    if (t.p[i][j][k] > 0) {
                        text.append(' ').append(Math.min(t.p[i][j][k], 999)).append("of ").append(k);
                    }
                }
                text.append(below(5) == 0 ? "\n;" : ";");
            }
            if (t.rev[i] > i) {
                text.append("reverse ").append(i).append(' ').append(t.rev[i]).append(';');
            }
        }
        return text.toString();
    }

    private static Oracle.T unit(int n) {
        Oracle.T t = new Oracle.T(n);
        for (int i = 0; i < n; i++) {
            t.p[0][i][i] = 1;
            t.p[i][0][i] = 1;
        }
        return t;
    }

    /** A table of three things by four numbers that need not be those of points. */
    private Oracle.T ofKind() {
        int v = 4 + below(below(3) == 0 ? 97 : 25);
        int k = 1 + below(v - 2);
        int l = below(k);
        if (k * (k - l - 1) % (v - k - 1) != 0) {
            return below(2) == 0 ? ofKind() : kinds(28, 9, 0, 4);
        }
        int m = k * (k - l - 1) / (v - k - 1);
        return m > k || v - 2 - 2 * k + m < 0 || v - 2 * k + l < 0 ? twoThings(k) : kinds(v, k, l, m);
    }

    private static Oracle.T kinds(int v, int k, int l, int m) {
        Oracle.T t = unit(3);
        t.p[1][1] = new long[] {k, l, m};
        t.p[1][2] = new long[] {0, k - l - 1, k - m};
        t.p[2][1] = t.p[1][2];
        t.p[2][2] = new long[] {v - k - 1, v - 2 * k + l, v - 2 - 2 * k + m};
        return t;
    }

    private int bigOrSmall() {
        switch (below(6)) {
            case 0:
                return 1 + below(999);
            case 1:
                return new int[] {999, 399, 500, 59, 60, 58}[below(6)];
            default:
                return 1 + below(below(2) == 0 ? 4 : 30);
        }
    }

    private static Oracle.T twoThings(int k) {
        Oracle.T t = unit(2);
        t.p[1][1] = new long[] {k, k - 1};
        return t;
    }

    /** Two things that are each other's REVERSES; laws 1 and 2 hold, 3 only by luck. */
    private Oracle.T threeInPairs() {
        int b = 1 + below(4);
        int c = 1 + below(4);
        int f = below(3);
        int g = below(2) == 0 ? f : below(3);
        Oracle.T t = unit(3);
        t.rev[1] = 2;
        t.rev[2] = 1;
        t.p[1][1] = new long[] {0, g, b};
        t.p[2][2] = new long[] {0, c, f};
        t.p[1][2] = new long[] {Math.max(0, b * c - f * g), f, g};
        t.p[2][1] = t.p[1][2];
        return t;
    }

    /** Groups of at most six things: any two give one. */
    private Oracle.T group() {
        int n = 2 + below(5);
        boolean fours = n == 4 && below(2) == 0;
        Oracle.T t = new Oracle.T(n);
        for (int i = 0; i < n; i++) {
            t.rev[i] = fours ? i : (n - i) % n;
            for (int j = 0; j < n; j++) {
                t.p[i][j][fours ? i ^ j : (i + j) % n] = 1;
            }
        }
        return t;
    }

    /** Pairs of things, or all words of n signs by how many signs they differ in. */
    private Oracle.T product() {
        if (below(3) == 0) {
            return words(2 + below(4), 2 + below(below(2) == 0 ? 1 : 3));
        }
        Oracle.T a = twoThings(1 + below(below(2) == 0 ? 2 : 7));
        Oracle.T b = below(2) == 0 ? ofKind() : below(2) == 0 ? threeInPairs() : group();
        if (b.n > 3) {
            b = twoThings(1 + below(8));
        }
        return below(2) == 0 ? product(a, b) : product(b, a);
    }

    private static Oracle.T product(Oracle.T a, Oracle.T b) {
        Oracle.T t = new Oracle.T(a.n * b.n);
        for (int i = 0; i < t.n; i++) {
            t.rev[i] = a.rev[i / b.n] * b.n + b.rev[i % b.n];
            for (int j = 0; j < t.n; j++) {
                for (int k = 0; k < t.n; k++) {
                    t.p[i][j][k] = a.p[i / b.n][j / b.n][k / b.n] * b.p[i % b.n][j % b.n][k % b.n];
                }
            }
        }
        return t;
    }

    private static Oracle.T words(int length, int signs) {
        int all = 1;
        for (int i = 0; i < length; i++) {
            all *= signs;
        }
        Oracle.T t = new Oracle.T(length + 1);
        int end = 0;
        for (int k = 0; k <= length; k++) {
            for (int z = 0; z < all; z++) {
                t.p[differ(z, 0, signs)][differ(z, end, signs)][k]++;
            }
            end = end * signs + 1;
        }
        return t;
    }

    private static int differ(int a, int b, int signs) {
        int count = 0;
        for (int x = a, y = b; x > 0 || y > 0; x /= signs, y /= signs) {
            count += x % signs == y % signs ? 0 : 1;
        }
        return count;
    }

    private static String share(int n, int of) {
        return n > 0 ? " " + n + " of " + of : "";
    }

    private String wild() {
        int n = 1 + below(6);
        int most = below(3) == 0 ? 999 : 3;
        StringBuilder text = new StringBuilder("things " + n + ";");
        for (int line = below(2 * n); line > 0; line--) {
            if (below(6) == 0) {
                text.append("reverse ").append(below(n + 1)).append(' ').append(below(n)).append(';');
            } else {
                text.append("times ").append(1 + below(n)).append(' ').append(1 + below(n)).append(" gives");
                for (int k = below(n); k < n; k += 1 + below(2)) {
                    text.append(share(1 + below(most), k));
                }
                text.append(';');
            }
        }
        return text.toString();
    }

    private String mutated(String text) {
        StringBuilder changed = new StringBuilder(text);
        for (int n = below(3); n >= 0; n--) {
            int at = below(changed.length() + 1);
            switch (below(4)) {
                case 0:
                    changed.insert(at, WORDS[below(WORDS.length)]);
                    break;
                case 1:
                    changed.insert(at, (char) (32 + below(95)));
                    break;
                case 2:
                    changed.setLength(at);
                    break;
                default:
                    if (at < changed.length()) {
                        changed.deleteCharAt(at);
                    }
            }
        }
        return changed.toString();
    }
}
