import java.lang.management.ManagementFactory;

/** What 512 calls make stays far below the room that a run has: here in bytes, some four or eight an element. */
final class RoomTest {
    private static final long MOST_BYTES = 6_000_000;
    private static final String BIG =
        "things 6;times 1 1 gives 3 of 0 2 of 1;times 2 1 gives 1 of 3 1 of 4 1 of 5;times 2 2 gives 3 of 0 2 of 2;"
        + "times 3 1 gives 1 of 2 1 of 4 1 of 5;times 3 2 gives 1 of 1 1 of 4 1 of 5;times 3 3 gives 3 of 0 2 of 3;"
        + "times 4 1 gives 1 of 2 1 of 3 1 of 5;times 4 2 gives 1 of 1 1 of 3 1 of 5;times 4 3 gives 1 of 1 1 of 2 1 of 5;"
        + "times 4 4 gives 3 of 0 2 of 4;times 5 1 gives 1 of 2 1 of 3 1 of 4;times 5 2 gives 1 of 1 1 of 3 1 of 4;"
        + "times 5 3 gives 1 of 1 1 of 2 1 of 4;times 5 4 gives 1 of 1 1 of 2 1 of 3;times 5 5 gives 3 of 0 2 of 5;";

    public static void main(String[] args) {
        new RoomTest().run(0);
        for (int kind = 0; kind <= 3; kind++) {
            long before = bytes();
            new RoomTest().run(kind);
            long made = bytes() - before;
            System.out.println("kind " + kind + ": " + made + " bytes");
            Check.due("room of kind " + kind, made <= MOST_BYTES, true);
        }
        Check.end("RoomTest");
    }

    private static long bytes() {
        return ((com.sun.management.ThreadMXBean) ManagementFactory.getThreadMXBean()).getCurrentThreadAllocatedBytes();
    }

    private void run(int kind) {
        ShareTable x = new ShareTable();
        Told.table(x, BIG);
        x.mark(0, false);
        for (int call = 25; call < 512; call += 4) {
            switch (kind) {
                case 0:
                    x.fuse(50);
                    x.rows();
                    x.twin();
                    x.mark(0, true);
                    break;
                case 1:
                    x.fuse(50);
                    x.fuses();
                    x.fuse(14);
                    x.mark(0, true);
                    break;
                case 2:
                    x.feed(0x7468696e67732031L, 0x3b00000000000000L, 0);
                    x.table();
                    x.wreath(0);
                    x.rows();
                    break;
                default:
                    x.kinds(100, 0);
                    x.kept(100, 1000000);
                    x.kinds(99, 1);
                    x.kind(100, 22, 0, 6);
            }
        }
    }
}
