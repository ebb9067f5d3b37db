/** The bounds of what is told of a TABLE, each on both sides, and its FAULTS. */
final class TableBoundsTest {
    private static final String SIX = "things 6;";

    public static void main(String[] args) {
        howManyThings();
        thingsComeFirst();
        theUnit();
        thingsOfTimes();
        eachTwoOnce();
        inBothOrders();
        howManyOfAShare();
        eachThingOnceInALine();
        noneOrMoreShares();
        thingsOfReverse();
        eachInOneReverse();
        othersAreTheirOwn();
        anyNumberOfLines();
        firstWrongToken();
        cutOrSpoilt();
        nothingIsKeptOfAFault();
        Check.end("TableBoundsTest");
    }

    private static void fault(String text, int kind, int place) {
        Check.due("fault of " + text, Told.table(text), kind + 16 * place);
    }

    /** "N 1 to 6". */
    private static void howManyThings() {
        for (int n = 0; n <= 12; n++) {
            ShareTable x = new ShareTable();
            boolean fits = n >= 1 && n <= 6;
            Check.due("things " + n, Told.table(x, "things " + n + ";"), fits ? 0 : 4 + 16 * 7);
            Check.due("there are then", x.count(0), fits ? n : 1);
            Check.due("to be undone then", x.count(1), fits ? 1 : 0);
        }
    }

    /** "things N ;   first". */
    private static void thingsComeFirst() {
        fault("times 1 1 gives;", 1, 0);
        fault("reverse 1 2;", 1, 0);
        fault("; things 2;", 1, 0);
        fault("things 2; things 2;", 1, 10);
        fault("things 2; times 1 1 gives; things 2;", 1, 27);
        fault("things 2; 3;", 1, 10);
        fault("points 2;", 1, 0);
    }

    /** "0 is the unit: put together with I it gives one I"; "what is not told gives nothing". */
    private static void theUnit() {
        for (int n = 1; n <= 6; n++) {
            ShareTable x = Told.ofTable("things " + n + ";");
            for (int i = 0; i < n; i++) {
                for (int j = 0; j < n; j++) {
                    for (int k = 0; k < n; k++) {
                        int due = i == 0 && j == k || j == 0 && i == k ? 1 : 0;
                        Check.due(n + " things, gives " + i + " " + j + " " + k, x.gives(i, j, k), due);
                    }
                }
            }
            Check.due("behind the last", x.gives(n, 0, n), -1);
        }
    }

    /** "times: I, J 1 to N less 1". */
    private static void thingsOfTimes() {
        for (int n = 1; n <= 6; n++) {
            for (int i = 0; i <= 8; i++) {
                boolean fits = i >= 1 && i < n;
                fault("things " + n + "; times " + i, fits ? 1 : 4, fits ? 17 : 16);
                if (n > 1) {
                    fault("things " + n + "; times 1 " + i, fits ? 1 : 4, fits ? 19 : 18);
                }
            }
        }
    }

    /** "each two in either order once": of all pairs of pairs of four things. */
    private static void eachTwoOnce() {
        for (int pairs = 0; pairs < 81; pairs++) {
            int i = 1 + pairs % 3;
            int j = 1 + pairs / 3 % 3;
            int k = 1 + pairs / 9 % 3;
            int l = 1 + pairs / 27;
            String text = "things 4; times " + i + " " + j + " gives; times " + k + " " + l;
            boolean again = i == k && j == l || i == l && j == k;
            fault(text, again ? 3 : 1, again ? 35 : 36);
            fault(text + " gives;", again ? 3 : 0, again ? 35 : 0);
        }
        for (int i = 1; i < 6; i++) {
            for (int j = 1; j < 6; j++) {
                String line = "times " + i + " " + j + " gives;";
                fault(SIX + line, 0, 0);
                fault(SIX + line + line, 3, 9 + 16 + 8);
            }
        }
    }

    /** "put together in both orders they give so". */
    private static void inBothOrders() {
        ShareTable x = Told.ofTable("things 4; times 3 1 gives 4 of 0 5 of 3; times 2 3 gives 6 of 1;");
        Check.due("as told", x.gives(3, 1, 3), 5);
        Check.due("in the other order", x.gives(1, 3, 3), 5);
        Check.due("some 0", x.gives(1, 3, 0), 4);
        Check.due("the last of another line", x.gives(3, 2, 1), 6);
        Check.due("not told", x.gives(1, 2, 1), 0);
    }

    /** "SHARE:   N of K   , 1 to 999 of a thing". */
    private static void howManyOfAShare() {
        int[] shares = {0, 1, 2, 998, 999, 1000, 1001, 9999};
        for (int share : shares) {
            boolean fits = share >= 1 && share <= 999;
            ShareTable x = new ShareTable();
            int got = Told.table(x, "things 2; times 1 1 gives " + share + " of 1;");
            Check.due("share of " + share, got, fits ? 0 : 4 + 16 * 26);
            Check.due("it gives then", x.gives(1, 1, 1), fits ? share : -1);
        }
        for (int n = 2; n <= 6; n++) {
            String text = "things " + n + "; times 1 1 gives 1 of ";
            fault(text + 0 + ";", 0, 0);
            fault(text + (n - 1) + ";", 0, 0);
            fault(text + n + ";", 4, 31);
        }
    }

    /** "each K once in a line". */
    private static void eachThingOnceInALine() {
        for (int k = 0; k < 6; k++) {
            for (int l = 0; l < 6; l++) {
                fault("things 6; times 1 1 gives 1 of " + k + " 1 of " + l + ";", k == l ? 3 : 0, k == l ? 38 : 0);
                fault("things 6; times 1 1 gives 1 of " + k + "; times 1 2 gives 1 of " + l + ";", 0, 0);
            }
        }
        fault("things 6; times 1 1 gives 1 of 2 1 of 3 1 of 2;", 3, 45);
    }

    /** "none or more". */
    private static void noneOrMoreShares() {
        ShareTable x = Told.ofTable("things 6; times 1 1 gives; times 5 5 gives 1 of 0 2 of 1 3 of 2 4 of 3 5 of 4 6 of 5;");
        for (int k = 0; k < 6; k++) {
            Check.due("none of " + k, x.gives(1, 1, k), 0);
            Check.due("all of " + k, x.gives(5, 5, k), k + 1);
        }
        fault("things 2; times 1 1 gives 1;", 1, 27);
        fault("things 2; times 1 1 gives 1 of;", 1, 30);
        fault("things 2; times 1 1 gives of 1;", 1, 26);
        fault("things 2; times 1 1 ;", 1, 20);
        fault("things 2; times 1 1 gives 1 of 0 2;", 1, 34);
    }

    /** "reverse: I, J 1 to N less 1, unlike". */
    private static void thingsOfReverse() {
        for (int n = 1; n <= 6; n++) {
            for (int i = 0; i <= 8; i++) {
                boolean fits = i >= 1 && i < n;
                fault("things " + n + "; reverse " + i, fits ? 1 : 4, fits ? 19 : 18);
                for (int j = 0; j <= 8 && fits; j++) {
                    boolean isThing = j >= 1 && j < n;
                    int kind = !isThing ? 4 : i == j ? 3 : 0;
                    fault("things " + n + "; reverse " + i + " " + j + ";", kind, kind == 0 ? 0 : 20);
                }
            }
        }
    }

    /** "each in one line at most": FAULT 3 at I or at J, whichever has its REVERSE. */
    private static void eachInOneReverse() {
        for (int i = 1; i < 6; i++) {
            for (int j = 1; j < 6; j++) {
                boolean had = i == 2 || i == 4;
                int kind = had || j == 2 || j == 4 || i == j ? 3 : 0;
                fault("things 6; reverse 4 2; reverse " + i + " " + j + ";", kind, kind == 0 ? 0 : had ? 31 : 33);
            }
        }
        fault("things 6; reverse 1 2; reverse 3 4; reverse 5", 1, 45);
        fault("things 6; reverse 1 2; reverse 3 4; reverse 5 4", 3, 46);
        fault("things 6; reverse 1 2; reverse 3 4; reverse 5 5", 3, 46);
    }

    /** "they are REVERSES of each other; others are their own". */
    private static void othersAreTheirOwn() {
        ShareTable x = Told.ofTable("things 6; reverse 5 1; reverse 2 4;");
        int[] due = {0, 5, 4, 3, 2, 1};
        for (int i = 0; i < 6; i++) {
            Check.due("reverse of " + i, x.thing(i, 0), due[i]);
        }
        x = Told.ofTable(SIX);
        for (int i = 0; i < 6; i++) {
            Check.due("its own is " + i, x.thing(i, 0), i);
        }
    }

    /** "then any number of": none, lines in any order, all that can be. */
    private static void anyNumberOfLines() {
        fault(SIX, 0, 0);
        fault("things 3; reverse 1 2; times 1 1 gives; times 2 2 gives;", 0, 0);
        fault("things 3; times 1 1 gives; reverse 1 2; times 2 2 gives;", 0, 0);
        StringBuilder all = new StringBuilder(SIX);
        for (int i = 1; i < 6; i++) {
            for (int j = 1; j <= i; j++) {
                all.append("times ").append(i).append(' ').append(j).append(" gives ").append(i * 10 + j).append("of ").append(j).append(';');
            }
        }
        all.append("reverse 1 2;reverse 3 4;");
        ShareTable x = Told.ofTable(all.toString());
        for (int i = 1; i < 6; i++) {
            for (int j = 1; j < 6; j++) {
                int due = Math.max(i, j) * 10 + Math.min(i, j);
                Check.due("all told: " + i + " " + j, x.gives(i, j, Math.min(i, j)), due);
            }
        }
        int length = all.length();
        Check.due("all told once more", Told.table(x, all.toString()), 0);
        Check.due("all told once more, the last", x.gives(5, 5, 5), 55);
        fault(all + "times 1 1", 3, length + 8);
        fault(all + "times 5 5", 3, length + 8);
        fault(all + "reverse 5 1", 3, length + 10);
    }

    /** "of the first token from the left that is wrong the least". */
    private static void firstWrongToken() {
        fault("things 7 7", 4, 7);
        fault("things 7 #", 4, 7);
        fault("things # 7", 1, 7);
        fault("things 3; times 3 9 gives 1000 of 9", 4, 16);
        fault("things 3; times 2 9 gives 1000 of 9", 4, 18);
        fault("things 3; times 2 2 give 1000 of 9", 1, 20);
        fault("things 3; times 2 2 gives 1000 of 9", 4, 26);
        fault("things 3; times 2 2 gives 1 on 9", 1, 28);
        fault("things 3; times 2 2 gives 1 of 9", 4, 31);
        fault("things 3; reverse 1 2; times 1 1 gives; reverse 1 9", 3, 48);
        fault("things 3; reverse 9 9", 4, 18);
        fault("things 3; times 1 1 gives; times 1 1 # 5", 3, 35);
    }

    /** FAULT 1 at the end where a text is cut, and at a sign that is none, at each of its tokens. */
    private static void cutOrSpoilt() {
        String text = "things 4 ; times 1 1 gives 2 of 0 1 of 1 ; reverse 2 3 ; times 2 3 gives ; ";
        for (int at = 0; at < text.length(); at++) {
            boolean starts = text.charAt(at) != ' ' && (at == 0 || text.charAt(at - 1) == ' ');
            boolean isWhole = at > 2 && text.charAt(at - 2) == ';';
            if (starts) {
                fault(text.substring(0, at), isWhole ? 0 : 1, isWhole ? 0 : at);
                fault(text.substring(0, at) + "! " + text.substring(at), 1, at);
            }
        }
        fault(text, 0, 0);
        fault(text + "!", 1, text.length());
    }

    /** What a TABLE with a FAULT told is told no more when the next one is read. */
    private static void nothingIsKeptOfAFault() {
        ShareTable x = new ShareTable();
        Check.due("a fault at the end", Told.table(x, "things 3; times 1 2 gives 7 of 2; reverse 1 2; x"), 1 + 16 * 47);
        Check.due("the same things anew", Told.table(x, "things 3; times 2 1 gives 5 of 1; reverse 2 1;"), 0);
        Check.due("as told now", x.gives(1, 2, 1), 5);
        Check.due("not as told then", x.gives(1, 2, 2), 0);
        Check.due("once more", Told.table(x, "things 3;"), 0);
        Check.due("nothing is told", x.gives(1, 2, 1), 0);
        Check.due("nothing is reversed", x.thing(1, 0), 1);
    }
}
