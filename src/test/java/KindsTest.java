/** Promises 22 to 24, all of them: each four numbers for up to 40 points, each count and each kept one for up to 100. */
final class KindsTest {
    public static void main(String[] args) {
        ShareTable x = new ShareTable();
        Oracle o = new Oracle();
        for (int v = 4; v <= 100; v++) {
            for (int reason = -1; reason <= 6; reason++) {
                Check.due("kinds " + v + " " + reason, x.kinds(v, reason), o.kinds(v, reason));
            }
            for (int i = -1; i <= o.kinds(v, 0); i++) {
                Check.due("kept " + v + " " + i, x.kept(v, i), o.kept(v, i));
            }
            for (int k = 0; v <= 40 && k < v; k++) {
                for (int l = -1; l <= k + 1; l++) {
                    for (int m = -1; m <= k + 1; m++) {
                        Check.due("kind " + v + " " + k + " " + l + " " + m, x.kind(v, k, l, m), o.kind(v, k, l, m));
                    }
                }
            }
        }
        Check.end("KindsTest");
    }
}
