/** The bounds of KINDS of three things, each on both sides. */
final class KindBoundsTest {
    private static final int NONE = ShareTable.NONE;

    private static final ShareTable X = new ShareTable();

    public static void main(String[] args) {
        howManyPoints();
        howManyGoTogether();
        howManyOfTheSame();
        farOff();
        reasonOne();
        reasonTwo();
        reasonThree();
        reasonFive();
        reasonsOfKinds();
        allAreSifted();
        keptOnes();
        Check.end("KindBoundsTest");
    }

    /** Once an object has been called 512 times, what it answers is free; so each call has its own. */
    private static int kind(int v, int k, int l, int m) {
        return new ShareTable().kind(v, k, l, m);
    }

    private static void reason(int due, int v, int k, int l, int m) {
        Check.due("kind " + v + " " + k + " " + l + " " + m, kind(v, k, l, m), due);
    }

    /** "v points (4 to 100)". */
    private static void howManyPoints() {
        for (int v = -1; v <= 104; v++) {
            boolean fits = v >= 4 && v <= 100;
            Check.due("kind of " + v, kind(v, 1, 0, 0) != NONE, fits);
            Check.due("kinds of " + v, new ShareTable().kinds(v, 1) != NONE, fits);
            Check.due("kept of " + v, new ShareTable().kept(v, 0) != NONE, fits && new ShareTable().kinds(v, 0) > 0);
        }
    }

    /** "k others (1 to v less 2)". */
    private static void howManyGoTogether() {
        for (int v = 4; v <= 100; v += 12) {
            for (int k = -1; k <= v + 1; k++) {
                Check.due("kind of " + v + " " + k, kind(v, k, 0, 0) != NONE, k >= 1 && k <= v - 2);
            }
        }
    }

    /** "both 0 to k". */
    private static void howManyOfTheSame() {
        for (int k = 1; k <= 98; k += 7) {
            for (int n = -1; n <= k + 2; n++) {
                boolean fits = n >= 0 && n <= k;
                Check.due("kind of 100 " + k + " l " + n, kind(100, k, n, 0) != NONE, fits);
                Check.due("kind of 100 " + k + " m " + n, kind(100, k, 0, n) != NONE, fits);
                Check.due("kind of 100 " + k + " l, m " + n, kind(100, k, n, n) != NONE, fits);
            }
        }
    }

    private static void farOff() {
        for (int far : new int[] {Integer.MIN_VALUE, Integer.MAX_VALUE, 1 << 30, -1 << 30, 1 << 16}) {
            reason(NONE, far, 3, 0, 1);
            reason(NONE, 10, far, 0, 1);
            reason(NONE, 10, 3, far, 1);
            reason(NONE, 10, 3, 0, far);
            Check.due("kinds of " + far, X.kinds(far, 0), NONE);
            Check.due("kinds for " + far, X.kinds(10, far), NONE);
            Check.due("kept of " + far, X.kept(far, 0), NONE);
            Check.due("kept " + far, X.kept(10, far), NONE);
        }
    }

    /** "1 k (k - l - 1) is not (v - k - 1) m". */
    private static void reasonOne() {
        reason(0, 10, 3, 0, 1);
        reason(1, 10, 3, 0, 0);
        reason(1, 10, 3, 0, 2);
        reason(1, 10, 3, 1, 1);
        reason(1, 9, 3, 0, 1);
        reason(1, 11, 3, 0, 1);
        // D is 0, but no such four numbers come so far
        reason(1, 10, 3, 3, 3);
        reason(1, 100, 98, 98, 98);
        reason(0, 4, 1, 0, 0);
        reason(0, 4, 2, 0, 2);
    }

    /** "2 .. D is no square, and 2 k + (v - 1) (l - m) is not 0". */
    private static void reasonTwo() {
        reason(0, 5, 2, 0, 1);
        reason(0, 13, 6, 2, 3);
        reason(0, 17, 8, 3, 4);
        reason(2, 7, 3, 1, 1);
        reason(2, 7, 3, 0, 2);
        reason(2, 9, 4, 0, 3);
        reason(2, 9, 4, 2, 1);
        // D is a square and the sum is 0
        reason(0, 9, 4, 1, 2);
    }

    /** "3 D is a square .. above 0, and .. can't be divided by s, or what comes and v - 1, together, is not even". */
    private static void reasonThree() {
        reason(3, 4, 2, 1, 0);
        reason(3, 7, 2, 1, 0);
        reason(0, 9, 2, 1, 0);
        reason(3, 5, 1, 0, 0);
        reason(0, 6, 1, 0, 0);
        reason(3, 5, 3, 1, 3);
        reason(0, 6, 4, 2, 4);
        reason(3, 100, 39, 38, 0);
        reason(0, 100, 49, 48, 0);
    }

    /** "5 one of the two does not hold": the first alone, the second alone, each with both sides alike. */
    private static void reasonFive() {
        reason(5, 21, 16, 12, 12);
        reason(5, 28, 18, 12, 10);
        reason(5, 28, 9, 0, 4);
        reason(5, 64, 21, 0, 10);
        reason(0, 16, 5, 0, 2);
        reason(0, 100, 22, 0, 6);
        reason(0, 100, 77, 60, 56);
        reason(0, 6, 2, 1, 0);
        reason(0, 4, 1, 0, 0);
        reason(0, 10, 6, 3, 4);
    }

    /** "Of v points how many k, l, m are LEFT OUT for a reason (0: not); NONE: others". */
    private static void reasonsOfKinds() {
        int[][] due = {{4, 2, 10, 0, 1, 0, 0}, {5, 1, 24, 0, 4, 0, 0}, {6, 4, 48, 0, 2, 0, 0}, {100, 32, 328030, 143, 141, 0, 3}};
        for (int[] of : due) {
            Check.due("reason -1 of " + of[0], X.kinds(of[0], -1), NONE);
            for (int reason = 0; reason <= 5; reason++) {
                Check.due("reason " + reason + " of " + of[0], X.kinds(of[0], reason), of[reason + 1]);
            }
            Check.due("reason 6 of " + of[0], X.kinds(of[0], 6), NONE);
        }
    }

    /** Each k, l, m has one reason or none. */
    private static void allAreSifted() {
        for (int v = 4; v <= 100; v++) {
            ShareTable x = new ShareTable();
            int all = 0;
            for (int k = 1; k <= v - 2; k++) {
                all += (k + 1) * (k + 1);
            }
            int sifted = 0;
            for (int reason = 0; reason <= 5; reason++) {
                sifted += x.kinds(v, reason);
            }
            Check.due("all of " + v, sifted, all);
        }
    }

    /** "The i-th k, l, m of v points that is not LEFT OUT (k, then l, then m least first) ..; NONE: others". */
    private static void keptOnes() {
        int[] six = {10000, 20100, 30003, 40204};
        for (int i = 0; i < six.length; i++) {
            Check.due("kept " + i, X.kept(6, i), six[i]);
        }
        Check.due("kept 4", X.kept(6, 4), NONE);
        Check.due("kept -1", X.kept(6, -1), NONE);
        Check.due("the only one", X.kept(5, 0), 20001);
        Check.due("no other", X.kept(5, 1), NONE);
        Check.due("the first of 100", X.kept(100, 0), 10000);
        Check.due("the last of 100", X.kept(100, 31), 989698);
        Check.due("behind the last of 100", X.kept(100, 32), NONE);
        for (int v = 4; v <= 100; v++) {
            ShareTable x = new ShareTable();
            int kept = x.kinds(v, 0);
            int ahead = -1;
            for (int i = 0; i < kept; i++) {
                int now = x.kept(v, i);
                Check.due("in order", now > ahead, true);
                Check.due("not left out", x.kind(v, now / 10000, now / 100 % 100, now % 100), 0);
                ahead = now;
            }
            Check.due("no more of " + v, x.kept(v, kept), NONE);
        }
    }
}
