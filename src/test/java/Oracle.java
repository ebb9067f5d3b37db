import java.math.BigInteger;
import java.util.ArrayDeque;
import java.util.ArrayList;
import java.util.Deque;
import java.util.HashMap;
import java.util.List;
import java.util.Map;
import java.util.function.IntBinaryOperator;
import java.util.regex.Matcher;
import java.util.regex.Pattern;

/** The document's words written down a second time, by other and slower ways; THROWS stands for an exception. */
final class Oracle {
    static final long THROWS = Told.THROWS;

    private static final class Fault extends RuntimeException {
        private static final long serialVersionUID = 1L;
        final int number;

        Fault(int kind, int place) {
            this.number = kind + 16 * place;
        }
    }

    private record Token(int place, String text, boolean isOne) {
        boolean isNumber() {
            return isOne && Character.isDigit(text.charAt(0));
        }
    }

    static final class T {
        final int n;
        final long[][][] p;
        final int[] rev;
        int[] brokenAt;
        List<int[]> rows;
        Integer twin;
        List<int[]> fusings;

        T(int n) {
            this.n = n;
            p = new long[n][n][n];
            rev = new int[n];
            for (int i = 0; i < n; i++) {
                rev[i] = i;
            }
        }

        long size(int i) {
            return p[i][rev[i]][0];
        }

        long order() {
            long sum = 0;
            for (int i = 0; i < n; i++) {
                sum += size(i);
            }
            return sum;
        }
    }

    private String tape = "";
    private T now = unit(1);
    private final Deque<T> past = new ArrayDeque<>();
    private final Deque<T> future = new ArrayDeque<>();
    private final Map<Integer, T> marks = new HashMap<>();
    private int why = 0;

    T now() {
        return now;
    }

    private static T unit(int n) {
        T t = new T(n);
        for (int i = 0; i < n; i++) {
            t.p[0][i][i] = 1;
            t.p[i][0][i] = 1;
        }
        return t;
    }

    long feed(long a, long b, long c) {
        for (long word : new long[] {a, b, c}) {
            for (byte sign : BigInteger.valueOf(word).add(BigInteger.ONE.shiftLeft(72)).toByteArray()) {
                feedSign(sign);
            }
        }
        return tape.length();
    }

    // the sum above has one byte 1 and one byte of carry ahead of the eight, so those are no signs of ours
    private void feedSign(byte sign) {
        if ((sign == 10 || sign >= 32 && sign <= 126) && tape.length() < 1000) {
            tape += (char) sign;
        }
    }

    private List<Token> tokens;
    private int at;

    private void cut() {
        tokens = new ArrayList<>();
        at = 0;
        Matcher m = Pattern.compile("[a-z]+|[0-9]+|[^\\n ]").matcher(tape);
        while (m.find()) {
            String text = m.group();
            boolean isOne = text.matches("[a-z]{1,8}|[0-9]{1,4}|[()<=+*;-]");
            tokens.add(new Token(m.start(), text, isOne));
        }
        tokens.add(new Token(tape.length(), "", false));
        tape = "";
    }

    private Token peek() {
        return tokens.get(at);
    }

    private boolean sees(String text) {
        return peek().isOne() && peek().text().equals(text);
    }

    private void want(String text) {
        if (!sees(text)) {
            throw new Fault(1, peek().place());
        }
        at++;
    }

    private int wantNumber(int least, int most) {
        if (!peek().isNumber()) {
            throw new Fault(1, peek().place());
        }
        int number = Integer.parseInt(peek().text());
        if (number < least || number > most) {
            throw new Fault(4, peek().place());
        }
        at++;
        return number;
    }

    private void refuseLastIf(boolean bad) {
        if (bad) {
            throw new Fault(3, tokens.get(at - 1).place());
        }
    }

    long table() {
        cut();
        try {
            done(readTable());
            return 0;
        } catch (Fault f) {
            return f.number;
        }
    }

    private T readTable() {
        want("things");
        int n = wantNumber(1, 6);
        want(";");
        T t = unit(n);
        List<String> told = new ArrayList<>();
        List<Integer> reversed = new ArrayList<>();
        while (!peek().text().isEmpty()) {
            if (sees("times")) {
                at++;
                int i = wantNumber(1, n - 1);
                int j = wantNumber(1, n - 1);
                refuseLastIf(told.contains(i + "," + j) || told.contains(j + "," + i));
                told.add(i + "," + j);
                want("gives");
                List<Integer> here = new ArrayList<>();
                while (!sees(";")) {
                    int share = wantNumber(1, 999);
                    want("of");
                    int k = wantNumber(0, n - 1);
                    refuseLastIf(here.contains(k));
                    here.add(k);
                    t.p[i][j][k] = share;
                    t.p[j][i][k] = share;
                }
                want(";");
            } else {
                want("reverse");
                int i = wantNumber(1, n - 1);
                refuseLastIf(reversed.contains(i));
                int j = wantNumber(1, n - 1);
                refuseLastIf(i == j || reversed.contains(j));
                reversed.add(i);
                reversed.add(j);
                t.rev[i] = j;
                t.rev[j] = i;
                want(";");
            }
        }
        return t;
    }

    private int points;

    long scheme() {
        int length = tape.length();
        cut();
        IntBinaryOperator colour;
        try {
            want("points");
            points = wantNumber(1, 12);
            want("colour");
            colour = expression(0);
            want(";");
            if (!peek().text().isEmpty()) {
                throw new Fault(1, peek().place());
            }
        } catch (Fault f) {
            return f.number;
        }
        int[][] c = new int[points][points];
        for (int x = 0; x < points; x++) {
            for (int y = 0; y < points; y++) {
                c[x][y] = colour.applyAsInt(x, y);
            }
        }
        why = whyOf(c);
        if (why != 0) {
            return 6 + 16 * length;
        }
        done(schemed(c));
        return 0;
    }

    private static int bit(boolean b) {
        return b ? 1 : 0;
    }

    private IntBinaryOperator expression(int depth) {
        IntBinaryOperator left = test(depth);
        while (sees("and") || sees("or")) {
            boolean and = sees("and");
            at++;
            IntBinaryOperator l = left;
            IntBinaryOperator r = test(depth);
            left = (x, y) -> {
                boolean a = l.applyAsInt(x, y) != 0;
                boolean b = r.applyAsInt(x, y) != 0;
                return bit(and ? a && b : a || b);
            };
        }
        return left;
    }

    private IntBinaryOperator test(int depth) {
        IntBinaryOperator l = sum(depth);
        if (!sees("<") && !sees("=")) {
            return l;
        }
        boolean below = sees("<");
        at++;
        IntBinaryOperator r = sum(depth);
        return (x, y) -> bit(below ? l.applyAsInt(x, y) < r.applyAsInt(x, y) : l.applyAsInt(x, y) == r.applyAsInt(x, y));
    }

    private IntBinaryOperator sum(int depth) {
        IntBinaryOperator left = product(depth);
        while (sees("+") || sees("-")) {
            int sign = sees("+") ? 1 : -1;
            at++;
            IntBinaryOperator l = left;
            IntBinaryOperator r = product(depth);
            left = (x, y) -> l.applyAsInt(x, y) + sign * r.applyAsInt(x, y);
        }
        return left;
    }

    private IntBinaryOperator product(int depth) {
        IntBinaryOperator left = piece(depth);
        while (sees("*")) {
            at++;
            IntBinaryOperator l = left;
            IntBinaryOperator r = piece(depth);
            left = (x, y) -> l.applyAsInt(x, y) * r.applyAsInt(x, y);
        }
        return left;
    }

    private IntBinaryOperator piece(int depth) {
        Token t = peek();
        boolean starts = t.isOne() && (t.isNumber() || t.text().matches("not|[(]|x|y|far|ring|same"));
        if (!starts) {
            throw new Fault(1, t.place());
        }
        if (depth == 5) {
            throw new Fault(5, t.place());
        }
        at++;
        if (t.isNumber()) {
            int value = Integer.parseInt(t.text());
            return (x, y) -> value;
        }
        switch (t.text()) {
            case "not":
                IntBinaryOperator within = piece(depth + 1);
                return (x, y) -> bit(within.applyAsInt(x, y) == 0);
            case "(":
                IntBinaryOperator inside = expression(depth + 1);
                want(")");
                return inside;
            case "x":
                return (x, y) -> x;
            case "y":
                return (x, y) -> y;
            case "far":
                return (x, y) -> y > x ? y - x : x - y;
            case "ring":
                int n = points;
                return (x, y) -> Math.min((y - x + n) % n, (x - y + n) % n);
            default:
                return (x, y) -> bit(x == y);
        }
    }

    private static int whyOf(int[][] c) {
        int n = c.length;
        int greatest = 0;
        List<Integer> all = new ArrayList<>();
        for (int[] line : c) {
            for (int v : line) {
                if (v < 0 || v > 5) {
                    return 1;
                }
                all.add(v);
                greatest = Math.max(greatest, v);
            }
        }
        for (int v = 0; v <= greatest; v++) {
            if (!all.contains(v)) {
                return 1;
            }
        }
        for (int x = 0; x < n; x++) {
            for (int y = 0; y < n; y++) {
                if (c[x][y] == 0 && x != y || c[x][y] != 0 && x == y) {
                    return 2;
                }
            }
        }
        boolean four = false;
        boolean five = false;
        for (int x = 0; x < n; x++) {
            for (int y = 0; y < n; y++) {
                for (int u = 0; u < n; u++) {
                    for (int v = 0; v < n; v++) {
                        if (c[x][y] == c[u][v]) {
                            if (c[y][x] != c[v][u]) {
                                return 3;
                            }
                            for (int i = 0; i <= greatest; i++) {
                                for (int j = 0; j <= greatest; j++) {
                                    four |= between(c, x, y, i, j) != between(c, u, v, i, j);
                                    five |= between(c, x, y, i, j) != between(c, x, y, j, i);
                                }
                            }
                        }
                    }
                }
            }
        }
        return four ? 4 : five ? 5 : 0;
    }

    private static int between(int[][] c, int x, int y, int i, int j) {
        int count = 0;
        for (int z = 0; z < c.length; z++) {
            count += bit(c[x][z] == i && c[z][y] == j);
        }
        return count;
    }

    private static T schemed(int[][] c) {
        int greatest = 0;
        for (int[] line : c) {
            for (int v : line) {
                greatest = Math.max(greatest, v);
            }
        }
        T t = new T(greatest + 1);
        for (int x = 0; x < c.length; x++) {
            for (int y = 0; y < c.length; y++) {
                t.rev[c[x][y]] = c[y][x];
                for (int i = 0; i <= greatest; i++) {
                    for (int j = 0; j <= greatest; j++) {
                        t.p[i][j][c[x][y]] = between(c, x, y, i, j);
                    }
                }
            }
        }
        return t;
    }

    long why() {
        return why;
    }

    private boolean has(int... things) {
        for (int thing : things) {
            if (thing < 0 || thing >= now.n) {
                return false;
            }
        }
        return true;
    }

    long gives(int i, int j, int k) {
        return has(i, j, k) ? now.p[i][j][k] : -1;
    }

    long thing(int thing, int what) {
        if (!has(thing) || what < 0 || what > 1) {
            return -1;
        }
        return what == 0 ? now.rev[thing] : now.size(thing);
    }

    long order() {
        return now.order();
    }

    /** The law that is broken first, its I, J, K; all 0: GOOD. */
    private static int[] brokenAt(T t) {
        if (t.brokenAt == null) {
            t.brokenAt = findBroken(t);
        }
        return t.brokenAt;
    }

    private static int[] findBroken(T t) {
        for (int law = 1; law <= 4; law++) {
            for (int i = 0; i < t.n; i++) {
                for (int j = 0; j < t.n; j++) {
                    for (int k = 0; k < t.n; k++) {
                        if (breaks(t, law, i, j, k)) {
                            return new int[] {law, i, j, k};
                        }
                    }
                }
            }
        }
        return new int[4];
    }

    private static long[] applied(T t, long[] sums, int by) {
        long[] next = new long[t.n];
        for (int i = 0; i < t.n; i++) {
            for (int k = 0; k < t.n; k++) {
                next[k] += sums[i] * t.p[i][by][k];
            }
        }
        return next;
    }

    private static long[] appliedLeft(T t, int by, long[] sums) {
        long[] next = new long[t.n];
        for (int i = 0; i < t.n; i++) {
            for (int k = 0; k < t.n; k++) {
                next[k] += sums[i] * t.p[by][i][k];
            }
        }
        return next;
    }

    private static boolean breaks(T t, int law, int i, int j, int k) {
        if (law == 1) {
            return !java.util.Arrays.equals(applied(t, t.p[i][j], k), appliedLeft(t, i, t.p[j][k]));
        }
        if (law == 2) {
            return t.p[i][j][0] != 0 ^ t.rev[i] == j;
        }
        if (law == 3) {
            return t.p[t.rev[i]][t.rev[j]][t.rev[k]] != t.p[i][j][k];
        }
        long sum = t.size(i) * t.size(j);
        for (int m = 0; m < t.n; m++) {
            sum -= t.p[i][j][m] * t.size(m);
        }
        return sum != 0;
    }

    private static boolean isGood(T t) {
        return brokenAt(t)[0] == 0;
    }

    private static boolean isSmall(T t) {
        return isGood(t) && t.order() <= 60;
    }

    long law(int what) {
        int[] broken = brokenAt(now);
        return what < 0 || what > 3 || what > 0 && broken[0] == 0 ? -1 : broken[what];
    }

    private static List<int[]> rowsOf(T t) {
        if (t.rows == null) {
            t.rows = new ArrayList<>();
            int[] x = new int[t.n];
            x[0] = 1;
            tryRows(t, x, 1);
        }
        return t.rows;
    }

    // x(1) * x(J) is told by what 1 and J give, and so on: a bound on what is still open prunes the search
    private static boolean canGo(T t, int[] x, int open) {
        for (int i = 0; i < open; i++) {
            for (int j = 0; j < open; j++) {
                long rest = (long) x[i] * x[j];
                long room = 0;
                for (int k = 0; k < t.n; k++) {
                    rest -= k < open ? t.p[i][j][k] * x[k] : 0;
                    room += k < open ? 0 : t.p[i][j][k] * t.size(k);
                }
                if (Math.abs(rest) > room) {
                    return false;
                }
            }
        }
        return true;
    }

    private static void tryRows(T t, int[] x, int open) {
        if (!canGo(t, x, open)) {
            return;
        }
        if (open == t.n) {
            t.rows.add(x.clone());
            return;
        }
        for (long v = -t.size(open); v <= t.size(open); v++) {
            x[open] = (int) v;
            tryRows(t, x, open + 1);
        }
    }

    long rows() {
        return isSmall(now) ? rowsOf(now).size() : -1;
    }

    long row(int row, int thing) {
        if (!isSmall(now) || row < 0 || row >= rowsOf(now).size() || !has(thing)) {
            return THROWS;
        }
        return rowsOf(now).get(row)[thing];
    }

    private static BigInteger big(long v) {
        return BigInteger.valueOf(v);
    }

    /** A fraction in lowest terms. */
    private static BigInteger[] lowest(BigInteger up, BigInteger down) {
        BigInteger g = up.gcd(down);
        if (down.signum() < 0) {
            g = g.negate();
        }
        return new BigInteger[] {up.divide(g), down.divide(g)};
    }

    private static BigInteger[] plus(BigInteger[] a, BigInteger[] b) {
        return lowest(a[0].multiply(b[1]).add(b[0].multiply(a[1])), a[1].multiply(b[1]));
    }

    private static BigInteger[] countOf(T t, int row) {
        int[] x = rowsOf(t).get(row);
        BigInteger[] sum = {BigInteger.ZERO, BigInteger.ONE};
        for (int i = 0; i < t.n; i++) {
            sum = plus(sum, lowest(big((long) x[i] * x[t.rev[i]]), big(t.size(i))));
        }
        return lowest(big(t.order()).multiply(sum[1]), sum[0]);
    }

    long counts(int row, int what) {
        if (!isSmall(now) || row < 0 || row >= rowsOf(now).size() || what < 0 || what > 1) {
            return -1;
        }
        return countOf(now, row)[what].longValueExact();
    }

    private static boolean isSplit(T t) {
        if (!isSmall(t) || rowsOf(t).size() != t.n) {
            return false;
        }
        for (int row = 0; row < t.n; row++) {
            if (!countOf(t, row)[1].equals(BigInteger.ONE)) {
                return false;
            }
        }
        return true;
    }

    private static BigInteger[] dualOf(T t, int a, int b, int c) {
        BigInteger[] sum = {BigInteger.ZERO, BigInteger.ONE};
        for (int i = 0; i < t.n; i++) {
            BigInteger up = big(rowsOf(t).get(a)[i]).multiply(big(rowsOf(t).get(b)[i])).multiply(big(rowsOf(t).get(c)[t.rev[i]]));
            sum = plus(sum, lowest(up, big(t.size(i) * t.size(i))));
        }
        BigInteger up = countOf(t, a)[0].multiply(countOf(t, b)[0]).multiply(sum[0]);
        return lowest(up, big(t.order()).multiply(sum[1]));
    }

    long dual(int a, int b, int c, int what) {
        if (!isSplit(now) || !has(a, b, c) || what < 0 || what > 1) {
            return THROWS;
        }
        return dualOf(now, a, b, c)[what].longValueExact();
    }

    long twin() {
        if (!isSplit(now)) {
            return -1;
        }
        if (now.twin == null) {
            int sizes = 0;
            for (int row = 0; row < now.n; row++) {
                boolean is = true;
                for (int i = 0; i < now.n; i++) {
                    is &= rowsOf(now).get(row)[i] == now.size(i);
                }
                sizes = is ? row : sizes;
            }
            now.twin = bit(someMatch(now, new ArrayList<>(List.of(sizes)), allDuals(now)));
        }
        return now.twin;
    }

    private static BigInteger[][][][] allDuals(T t) {
        BigInteger[][][][] all = new BigInteger[t.n][t.n][t.n][];
        for (int a = 0; a < t.n; a++) {
            for (int b = 0; b < t.n; b++) {
                for (int c = 0; c < t.n; c++) {
                    all[a][b][c] = dualOf(t, a, b, c);
                }
            }
        }
        return all;
    }

    private static boolean someMatch(T t, List<Integer> rowOf, BigInteger[][][][] duals) {
        if (rowOf.size() == t.n) {
            return isMatch(t, rowOf, duals);
        }
        for (int row = 0; row < t.n; row++) {
            if (!rowOf.contains(row)) {
                List<Integer> more = new ArrayList<>(rowOf);
                more.add(row);
                if (someMatch(t, more, duals)) {
                    return true;
                }
            }
        }
        return false;
    }

    private static boolean isMatch(T t, List<Integer> rowOf, BigInteger[][][][] duals) {
        for (int i = 0; i < t.n; i++) {
            for (int j = 0; j < t.n; j++) {
                for (int k = 0; k < t.n; k++) {
                    BigInteger[] d = duals[rowOf.get(i)][rowOf.get(j)][rowOf.get(k)];
                    if (!d[1].equals(BigInteger.ONE) || !d[0].equals(big(t.p[i][j][k]))) {
                        return false;
                    }
                }
            }
        }
        return true;
    }

    private static List<Integer> partsOf(T t) {
        List<Integer> found = new ArrayList<>();
        for (int bits = 0; bits < 1 << t.n; bits++) {
            int given = 1;
            for (int i = 0; i < t.n; i++) {
                for (int j = 0; j < t.n; j++) {
                    for (int k = 0; k < t.n; k++) {
                        if ((bits & 1 << i) != 0 && (bits & 1 << j) != 0 && t.p[i][j][k] > 0) {
                            given |= 1 << k;
                        }
                    }
                }
            }
            if ((given | bits) == bits) {
                found.add(bits);
            }
        }
        return found;
    }

    long parts() {
        return isGood(now) ? partsOf(now).size() : -1;
    }

    long part(int i) {
        return isGood(now) && i >= 0 && i < partsOf(now).size() ? partsOf(now).get(i) : -1;
    }

    private long take(T t) {
        if (t == null) {
            return -1;
        }
        for (long[][] plane : t.p) {
            for (long[] line : plane) {
                for (long share : line) {
                    if (share > 999999) {
                        return -1;
                    }
                }
            }
        }
        done(t);
        return t.n;
    }

    long quotient(int i) {
        if (part(i) < 0) {
            return -1;
        }
        int bits = (int) part(i);
        long order = 0;
        List<List<Integer>> classes = new ArrayList<>();
        for (int a = 0; a < now.n; a++) {
            order += (bits & 1 << a) != 0 ? now.size(a) : 0;
            List<Integer> own = new ArrayList<>();
            for (int k = 0; k < now.n; k++) {
                boolean given = false;
                for (int h = 0; h < now.n; h++) {
                    given |= (bits & 1 << h) != 0 && now.p[a][h][k] > 0;
                }
                if (given) {
                    own.add(k);
                }
            }
            if (!classes.contains(own)) {
                classes.add(own);
            }
        }
        return take(gathered(now, classes, order));
    }

    private static T gathered(T t, List<List<Integer>> classes, long by) {
        T made = new T(classes.size());
        for (int a = 0; a < made.n; a++) {
            for (int b = 0; b < made.n; b++) {
                made.rev[a] = classes.get(b).contains(t.rev[classes.get(a).get(0)]) ? b : made.rev[a];
                for (int c = 0; c < made.n; c++) {
                    long sum = together(t, classes.get(a), classes.get(b), classes.get(c).get(0));
                    if (sum % by != 0) {
                        return null;
                    }
                    made.p[a][b][c] = sum / by;
                }
            }
        }
        return made;
    }

    private static long together(T t, List<Integer> a, List<Integer> b, int k) {
        long sum = 0;
        for (int i : a) {
            for (int j : b) {
                sum += t.p[i][j][k];
            }
        }
        return sum;
    }

    private static List<int[]> fusingsOf(T t) {
        if (t.fusings != null) {
            return t.fusings;
        }
        t.fusings = new ArrayList<>();
        int rows = 1;
        for (int i = 0; i < t.n; i++) {
            rows *= t.n;
        }
        for (int number = 0; number < rows; number++) {
            int[] row = new int[t.n];
            int rest = number;
            for (int i = t.n - 1; i >= 0; i--) {
                row[i] = rest % t.n;
                rest /= t.n;
            }
            if (isPartition(row) && canFuse(t, classesOf(row))) {
                t.fusings.add(row);
            }
        }
        return t.fusings;
    }

    private static boolean isPartition(int[] row) {
        int greatest = 0;
        if (row[0] != 0) {
            return false;
        }
        for (int i = 1; i < row.length; i++) {
            if (row[i] == 0 || row[i] > greatest + 1) {
                return false;
            }
            greatest = Math.max(greatest, row[i]);
        }
        return true;
    }

    private static List<List<Integer>> classesOf(int[] row) {
        List<List<Integer>> classes = new ArrayList<>();
        for (int i = 0; i < row.length; i++) {
            while (classes.size() <= row[i]) {
                classes.add(new ArrayList<>());
            }
            classes.get(row[i]).add(i);
        }
        return classes;
    }

    private static boolean canFuse(T t, List<List<Integer>> classes) {
        for (List<Integer> a : classes) {
            List<Integer> turned = new ArrayList<>();
            for (int i : a) {
                turned.add(t.rev[i]);
            }
            turned.sort(null);
            if (!classes.contains(turned)) {
                return false;
            }
            for (List<Integer> b : classes) {
                for (List<Integer> c : classes) {
                    for (int k : c) {
                        if (together(t, a, b, k) != together(t, a, b, c.get(0))) {
                            return false;
                        }
                    }
                }
            }
        }
        return true;
    }

    long fuses() {
        return isGood(now) ? fusingsOf(now).size() : -1;
    }

    long fusing(int i, int thing) {
        return isGood(now) && i >= 0 && i < fusingsOf(now).size() && has(thing) ? fusingsOf(now).get(i)[thing] : -1;
    }

    long fuse(int i) {
        return fusing(i, 0) < 0 ? -1 : take(gathered(now, classesOf(fusingsOf(now).get(i)), 1));
    }

    long wreath(int mark) {
        T other = marks.get(mark);
        if (other == null || !isGood(now) || !isGood(other) || now.n + other.n - 1 > 6) {
            return -1;
        }
        int own = now.n;
        T t = new T(own + other.n - 1);
        for (int i = 0; i < own; i++) {
            t.rev[i] = now.rev[i];
            for (int j = 0; j < own; j++) {
                System.arraycopy(now.p[i][j], 0, t.p[i][j], 0, own);
            }
            for (int s = own; s < t.n; s++) {
                t.p[i][s][s] = now.size(i);
                t.p[s][i][s] = now.size(i);
            }
        }
        for (int s = 1; s < other.n; s++) {
            t.rev[own + s - 1] = own + other.rev[s] - 1;
            for (int u = 1; u < other.n; u++) {
                for (int k = 0; k < t.n; k++) {
                    t.p[own + s - 1][own + u - 1][k] = now.order() * other.p[s][u][k < own ? 0 : k - own + 1];
                }
            }
        }
        return take(t);
    }

    private static int reason(int v, int k, int l, int m) {
        if (k * (k - l - 1) != (v - k - 1) * m) {
            return 1;
        }
        int d = (l - m) * (l - m) + 4 * (k - m);
        int s = (int) Math.round(Math.sqrt(d));
        int e = 2 * k + (v - 1) * (l - m);
        if (s * s != d) {
            return e != 0 ? 2 : 0;
        }
        if (d == 0) {
            return 4;
        }
        if (e % s != 0 || Math.floorMod(e / s + v - 1, 2) != 0) {
            return 3;
        }
        double r = (l - m + s) / 2.0;
        double t = (l - m - s) / 2.0;
        boolean one = (r + 1) * (k + r + 2 * r * t) <= (k + r) * (t + 1) * (t + 1);
        boolean two = (t + 1) * (k + t + 2 * r * t) <= (k + t) * (r + 1) * (r + 1);
        return one && two ? 0 : 5;
    }

    long kind(int v, int k, int l, int m) {
        boolean fits = v >= 4 && v <= 100 && k >= 1 && k <= v - 2 && l >= 0 && l <= k && m >= 0 && m <= k;
        return fits ? reason(v, k, l, m) : -1;
    }

    private static final Map<Integer, int[]> KINDS = new HashMap<>();
    private static final Map<Integer, List<Integer>> KEPT = new HashMap<>();

    private static void sift(int v) {
        if (KINDS.containsKey(v)) {
            return;
        }
        int[] counts = new int[6];
        List<Integer> kept = new ArrayList<>();
        for (int k = 1; k <= v - 2; k++) {
            for (int l = 0; l <= k; l++) {
                for (int m = 0; m <= k; m++) {
                    int why = reason(v, k, l, m);
                    counts[why]++;
                    if (why == 0) {
                        kept.add(k * 10000 + l * 100 + m);
                    }
                }
            }
        }
        KINDS.put(v, counts);
        KEPT.put(v, kept);
    }

    long kinds(int v, int reason) {
        if (v < 4 || v > 100 || reason < 0 || reason > 5) {
            return -1;
        }
        sift(v);
        return KINDS.get(v)[reason];
    }

    long kept(int v, int i) {
        if (v < 4 || v > 100) {
            return -1;
        }
        sift(v);
        return i >= 0 && i < KEPT.get(v).size() ? KEPT.get(v).get(i) : -1;
    }

    private long[] walked(int by, int n) {
        long[] sums = new long[now.n];
        sums[0] = 1;
        for (int i = 0; i < n; i++) {
            sums = applied(now, sums, by);
        }
        return sums;
    }

    long walks(int by, int n, int at) {
        return isSmall(now) && has(by, at) && n >= 0 && n <= 10 ? walked(by, n)[at] : -1;
    }

    long mixed(int by) {
        for (int n = 0; isSmall(now) && has(by) && n <= 10; n++) {
            boolean all = true;
            for (long ways : walked(by, n)) {
                all &= ways > 0;
            }
            if (all) {
                return n;
            }
        }
        return -1;
    }

    private void done(T next) {
        past.addLast(now);
        if (past.size() > 12) {
            past.removeFirst();
        }
        future.clear();
        now = next;
    }

    long undo() {
        if (past.isEmpty()) {
            return 0;
        }
        future.addLast(now);
        now = past.removeLast();
        return 1;
    }

    long again() {
        if (future.isEmpty()) {
            return 0;
        }
        past.addLast(now);
        now = future.removeLast();
        return 1;
    }

    long mark(int mark, boolean back) {
        if (mark < 0 || mark > 3 || back && !marks.containsKey(mark)) {
            return 0;
        }
        if (back) {
            done(marks.get(mark));
        } else {
            marks.put(mark, now);
        }
        return 1;
    }

    long count(int what) {
        switch (what) {
            case 0:
                return now.n;
            case 1:
                return past.size();
            case 2:
                return future.size();
            case 3:
                return tape.length();
            default:
                return -1;
        }
    }
}
