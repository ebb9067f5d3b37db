import java.util.ArrayList;
import java.util.List;

/**
 * After a refused call all stays: of two objects made alike one is refused something, and both answer alike then,
 * whatever is asked, undone, done again, gone back to or read. What only asks leaves all as it is, too.
 */
final class StaysTest {
    private static final int NONE = ShareTable.NONE;
    private static final long THROWS = Told.THROWS;
    private static final long FALSE = 0;
    private static final int PROBES = 9;

    private interface Call {
        long on(ShareTable x);
    }

    private record Refused(String name, long due, Call call) {
    }

    /** How an object is made that something is refused. */
    private enum State {
        NEW, SMALL, LARGE, BROKEN, FULL, SPENT, NOT_WHOLE, TOO_MANY, TOO_GREAT;

        ShareTable make() {
            ShareTable x = new ShareTable();
            if (this == NEW) {
                return x;
            }
            Told.table(x, "things 2;");
            x.mark(1, false);
            Told.table(x, Told.twoThings(142));
            x.mark(2, false);
            Told.table(x, Told.twoThings(6));
            x.wreath(2);
            x.mark(2, false);
            Told.scheme(x, "points 4 colour ring;");
            x.mark(3, false);
            Told.scheme(x, "points 2 colour same;");
            Told.table(x, now());
            if (this == TOO_MANY) {
                x.wreath(3);
            } else if (this == TOO_GREAT) {
                x.wreath(2);
            }
            int more = this == FULL || this == SPENT ? 12 : 2;
            for (int n = 1; n <= more; n++) {
                Told.table(x, Told.twoThings(n));
            }
            for (int n = 0; n < more && this != FULL; n++) {
                x.undo();
            }
            return x;
        }

        private String now() {
            switch (this) {
                case LARGE:
                    return Told.twoThings(60);
                case BROKEN:
                    return "things 3; times 1 1 gives 1 of 1;";
                case NOT_WHOLE:
                    return "things 3; times 1 1 gives 2 of 0 1 of 1; times 1 2 gives 2 of 2; times 2 2 gives 4 of 0 4 of 1 1 of 2;";
                case TOO_MANY:
                    return "things 4; times 1 1 gives 1 of 0; times 2 2 gives 1 of 0; times 3 3 gives 1 of 0;"
                        + "times 1 2 gives 1 of 3; times 1 3 gives 1 of 2; times 2 3 gives 1 of 1;";
                case TOO_GREAT:
                    return Told.twoThings(999);
                default:
                    return "things 3; times 1 1 gives 1 of 2; times 2 2 gives 1 of 1; times 1 2 gives 1 of 0; reverse 1 2;";
            }
        }
    }

    public static void main(String[] args) {
        for (State state : State.values()) {
            isAsNamed(state);
            stay(state, noSuch());
            stay(state, ofState(state));
            asksOnly(state);
            faults(state);
        }
        Check.end("StaysTest");
    }

    private static void isAsNamed(State state) {
        ShareTable x = state.make();
        boolean isNew = state == State.NEW;
        boolean small = state != State.LARGE && state != State.BROKEN && state != State.TOO_GREAT;
        Check.due(state + " is good", x.law(0) == 0, state != State.BROKEN);
        Check.due(state + " is small", x.rows() != NONE, small);
        Check.due(state + " can be undone", x.count(1) == 0, isNew || state == State.SPENT);
        Check.due(state + " can be done again", x.count(2) == 0, isNew || state == State.FULL);
        Check.due(state + " was asked why", x.why(), isNew ? 0 : 2);
        Check.due(state + " has an empty tape", x.count(3), 0);
        Check.due(state + " is six things", x.count(0) == 6, state == State.TOO_MANY);
        Check.due(state + " has a great order", x.order() > 1000000, state == State.TOO_GREAT);
    }

    /** Refused whatever there is: no such thing, ROW, PART, PARTITION, MARK, KIND, step or what. */
    private static List<Refused> noSuch() {
        List<Refused> all = new ArrayList<>();
        for (int bad : new int[] {-1, 6, 64, Integer.MAX_VALUE, Integer.MIN_VALUE}) {
            all.add(new Refused("gives i " + bad, NONE, x -> x.gives(bad, 0, 0)));
            all.add(new Refused("gives j " + bad, NONE, x -> x.gives(0, bad, 0)));
            all.add(new Refused("gives k " + bad, NONE, x -> x.gives(0, 0, bad)));
            all.add(new Refused("thing " + bad, NONE, x -> x.thing(bad, 0)));
            all.add(new Refused("thing, what " + bad, NONE, x -> x.thing(0, bad)));
            all.add(new Refused("law " + bad, NONE, x -> x.law(bad)));
            all.add(new Refused("row " + bad, THROWS, x -> Told.row(x, bad, 0)));
            all.add(new Refused("row of " + bad, THROWS, x -> Told.row(x, 0, bad)));
            all.add(new Refused("counts " + bad, NONE, x -> x.counts(bad, 0)));
            all.add(new Refused("counts, what " + bad, NONE, x -> x.counts(0, bad)));
            all.add(new Refused("dual a " + bad, THROWS, x -> Told.dual(x, bad, 0, 0, 0)));
            all.add(new Refused("dual b " + bad, THROWS, x -> Told.dual(x, 0, bad, 0, 0)));
            all.add(new Refused("dual c " + bad, THROWS, x -> Told.dual(x, 0, 0, bad, 0)));
            all.add(new Refused("dual, what " + bad, THROWS, x -> Told.dual(x, 0, 0, 0, bad)));
            all.add(new Refused("part " + bad, NONE, x -> x.part(bad == 6 ? 32 : bad)));
            all.add(new Refused("quotient " + bad, NONE, x -> x.quotient(bad == 6 ? 32 : bad)));
            all.add(new Refused("fusing " + bad, NONE, x -> x.fusing(bad == 6 ? 52 : bad, 0)));
            all.add(new Refused("fusing of " + bad, NONE, x -> x.fusing(0, bad)));
            all.add(new Refused("fuse " + bad, NONE, x -> x.fuse(bad == 6 ? 52 : bad)));
            all.add(new Refused("walks by " + bad, NONE, x -> x.walks(bad, 1, 0)));
            all.add(new Refused("walks, steps " + bad, NONE, x -> x.walks(0, bad == 6 ? 11 : bad, 0)));
            all.add(new Refused("walks at " + bad, NONE, x -> x.walks(0, 1, bad)));
            all.add(new Refused("mixed by " + bad, NONE, x -> x.mixed(bad)));
            addMore(all, bad);
        }
        return all;
    }

    private static void addMore(List<Refused> all, int bad) {
        int mark = bad == 6 ? 4 : bad;
        int v = bad == 6 ? 3 : bad == 64 ? 101 : bad;
        all.add(new Refused("wreath " + mark, NONE, x -> x.wreath(mark)));
        all.add(new Refused("wreath in none", NONE, x -> x.wreath(0)));
        all.add(new Refused("mark " + mark, FALSE, x -> x.mark(mark, false) ? 1 : 0));
        all.add(new Refused("back to " + mark, FALSE, x -> x.mark(mark, true) ? 1 : 0));
        all.add(new Refused("back to none", FALSE, x -> x.mark(0, true) ? 1 : 0));
        all.add(new Refused("count " + mark, NONE, x -> x.count(mark)));
        all.add(new Refused("kind of " + v, NONE, x -> x.kind(v, 1, 0, 0)));
        all.add(new Refused("kind k " + bad, NONE, x -> x.kind(7, bad, 0, 0)));
        all.add(new Refused("kind l " + bad, NONE, x -> x.kind(7, 3, bad, 0)));
        all.add(new Refused("kind m " + bad, NONE, x -> x.kind(7, 3, 0, bad)));
        all.add(new Refused("kinds of " + v, NONE, x -> x.kinds(v, 0)));
        all.add(new Refused("kinds for " + bad, NONE, x -> x.kinds(7, bad)));
        all.add(new Refused("kept of " + v, NONE, x -> x.kept(v, 0)));
        all.add(new Refused("kept " + bad, NONE, x -> x.kept(7, bad)));
    }

    /** Refused for what there is: not SMALL, not GOOD, nothing to be UNDONE or done AGAIN, REFUSED. */
    private static List<Refused> ofState(State state) {
        List<Refused> all = new ArrayList<>();
        if (state == State.NEW || state == State.SPENT) {
            all.add(new Refused("undo", FALSE, x -> x.undo() ? 1 : 0));
        }
        if (state == State.NEW || state == State.FULL) {
            all.add(new Refused("again", FALSE, x -> x.again() ? 1 : 0));
        }
        if (state == State.LARGE || state == State.BROKEN || state == State.TOO_GREAT) {
            all.add(new Refused("rows", NONE, x -> x.rows()));
            all.add(new Refused("row", THROWS, x -> Told.row(x, 0, 0)));
            all.add(new Refused("counts", NONE, x -> x.counts(0, 0)));
            all.add(new Refused("dual", THROWS, x -> Told.dual(x, 0, 0, 0, 0)));
            all.add(new Refused("twin", NONE, x -> x.twin()));
            all.add(new Refused("walks", NONE, x -> x.walks(0, 0, 0)));
            all.add(new Refused("mixed", NONE, x -> x.mixed(0)));
        }
        if (state == State.BROKEN) {
            all.add(new Refused("parts", NONE, x -> x.parts()));
            all.add(new Refused("part", NONE, x -> x.part(0)));
            all.add(new Refused("quotient", NONE, x -> x.quotient(0)));
            all.add(new Refused("fuses", NONE, x -> x.fuses()));
            all.add(new Refused("fusing", NONE, x -> x.fusing(0, 0)));
            all.add(new Refused("fuse", NONE, x -> x.fuse(0)));
            all.add(new Refused("wreath of what is not good", NONE, x -> x.wreath(3)));
        }
        if (state == State.NOT_WHOLE) {
            all.add(new Refused("quotient that is not whole", NONE, x -> x.quotient(1)));
        }
        if (state == State.TOO_MANY) {
            all.add(new Refused("wreath of too many things", NONE, x -> x.wreath(3)));
        }
        if (state == State.TOO_GREAT) {
            all.add(new Refused("fuse to 1,000,999", NONE, x -> x.fuse(0)));
            all.add(new Refused("wreath of too great shares", NONE, x -> x.wreath(3)));
        }
        if (state != State.NEW) {
            all.add(new Refused("wreath in what is not good", NONE, x -> x.wreath(1)));
        }
        return all;
    }

    private static void stay(State state, List<Refused> all) {
        for (Refused refused : all) {
            for (int probe = 0; probe < PROBES; probe++) {
                ShareTable same = fed(state.make());
                ShareTable x = fed(state.make());
                String what = state + ", " + refused.name();
                Check.due(what, refused.call().on(x), refused.due());
                compare(what, same, x, probe);
            }
        }
    }

    /** Part of a text waits on the TAPE. */
    private static ShareTable fed(ShareTable x) {
        Told.feed(x, "things 2");
        return x;
    }

    private static void asksOnly(State state) {
        for (int probe = 0; probe < PROBES; probe++) {
            ShareTable same = fed(state.make());
            ShareTable x = fed(state.make());
            look(x);
            compare(state + ", asked", same, x, probe);
        }
    }

    /** A FAULT takes the TAPE and leaves all else; COLOURS that are not as wanted are WHY then. */
    private static void faults(State state) {
        String[] tables = {"", "#", "things 0;", "things 7;", "things 3; times 1 2 gives 5 of 0; reverse 1 2; reverse 1", "things 2; times 1 1 gives 1 of 0"};
        String[] schemes = {"", "#", "points 0 colour 0;", "points 13 colour 0;", "points 2 colour ((((((", "points 2 colour not same"};
        String[] unwanted = {"points 2 colour same;", "points 2 colour 0;"};
        for (int probe = 0; probe < PROBES; probe++) {
            for (String text : tables) {
                ShareTable x = state.make();
                Check.due(state + ", table " + text, Told.table(x, text) != 0, true);
                compare(state + ", table " + text, state.make(), x, probe);
            }
            for (String text : schemes) {
                ShareTable x = state.make();
                Check.due(state + ", scheme " + text, Told.scheme(x, text) != 0, true);
                compare(state + ", scheme " + text, state.make(), x, probe);
            }
            for (String text : unwanted) {
                ShareTable x = state.make();
                ShareTable same = state.make();
                Told.scheme(same, "points 3 colour same;");
                Check.due(state + ", scheme " + text, Told.scheme(x, text), 6 + 16 * text.length());
                compare(state + ", scheme " + text, same, x, probe);
            }
        }
    }

    private static void compare(String what, ShareTable same, ShareTable x, int probe) {
        List<Long> due = probed(same, probe);
        List<Long> got = probed(x, probe);
        Check.due(what + ": all stays, by probe " + probe, got.equals(due), true);
    }

    /** One way to see what an object holds; each keeps within 512 calls. */
    private static List<Long> probed(ShareTable x, int probe) {
        switch (probe) {
            case 0:
                return look(x);
            case 1:
                return undoAll(x);
            case 2:
                return doAllAgain(x);
            case 3: case 4: case 5: case 6:
                return goBack(x, probe - 3);
            case 7:
                Told.feed(x, ";");
                return readAs(x, x.table());
            default:
                Told.feed(x, "points 2 colour same;");
                return readAs(x, x.scheme());
        }
    }

    private static List<Long> undoAll(ShareTable x) {
        List<Long> seen = new ArrayList<>();
        for (int n = 0; n < 13; n++) {
            seen.add(x.undo() ? 1L : 0L);
            glance(x, seen);
        }
        return seen;
    }

    private static List<Long> doAllAgain(ShareTable x) {
        List<Long> seen = new ArrayList<>();
        for (int n = 0; n < 13; n++) {
            seen.add(x.again() ? 1L : 0L);
            glance(x, seen);
        }
        return seen;
    }

    private static List<Long> goBack(ShareTable x, int mark) {
        List<Long> seen = new ArrayList<>();
        seen.add(x.mark(mark, true) ? 1L : 0L);
        glance(x, seen);
        seen.add(x.undo() ? 1L : 0L);
        glance(x, seen);
        return seen;
    }

    private static List<Long> readAs(ShareTable x, int fault) {
        List<Long> seen = new ArrayList<>();
        seen.add((long) fault);
        seen.add((long) x.why());
        glance(x, seen);
        return seen;
    }

    private static void glance(ShareTable x, List<Long> seen) {
        int last = x.count(0) - 1;
        for (int what = 0; what < 4; what++) {
            seen.add((long) x.count(what));
        }
        for (int k = 0; k <= last; k++) {
            seen.add((long) x.gives(last, last, k));
        }
        seen.add((long) x.thing(last, 0));
        seen.add((long) x.order());
        seen.add((long) x.why());
    }

    /** All that can be asked without changing anything. */
    private static List<Long> look(ShareTable x) {
        List<Long> seen = new ArrayList<>();
        int things = x.count(0);
        for (int i = 0; i < things; i++) {
            for (int j = 0; j <= i; j++) {
                for (int k = 0; k < things; k++) {
                    seen.add((long) x.gives(i, j, k));
                }
            }
            seen.add((long) x.thing(i, 0));
            seen.add((long) x.thing(i, 1));
            seen.add(Told.row(x, i, things - 1));
            seen.add(x.counts(i, 0));
            seen.add(Told.dual(x, i, i, i, 0));
            seen.add(x.walks(i, 10, things - 1));
            seen.add((long) x.mixed(i));
            seen.add((long) x.fusing(1, i));
        }
        for (int what = 0; what < 4; what++) {
            seen.add((long) x.law(what));
            seen.add((long) x.part(what));
            seen.add((long) x.count(what));
        }
        int[] rest = {x.why(), x.order(), x.rows(), x.twin(), x.parts(), x.fuses(), x.kind(10, 3, 0, 1), x.kinds(10, 0), x.kept(10, 1)};
        for (int answer : rest) {
            seen.add((long) answer);
        }
        return seen;
    }
}
