/** The bounds of what is told of a SCHEME, of its formula and of its COLOURS, each on both sides. */
final class SchemeBoundsTest {
    private static final String HEAD = "points 3 colour ";

    public static void main(String[] args) {
        howManyPoints();
        factsOfPoints();
        farAndRing();
        oneOrZero();
        fromTheLeft();
        whatBindsCloser();
        oneTestOnly();
        intsWrap();
        fourDeep();
        fiveDeep();
        notTooDeep();
        longestFormula();
        leastOfADeepToken();
        cutOrSpoilt();
        nothingBehind();
        atTheEnd();
        whyOne();
        whyTwo();
        whyThreeToFive();
        firstWhy();
        whyStays();
        itsTable();
        Check.end("SchemeBoundsTest");
    }

    private static void fault(String text, int kind, int place) {
        Check.due("fault of " + text, Told.scheme(text), kind + 16 * place);
    }

    /** Whether a formula that is 1 or 0 is 1 for all x, y of so many points: COLOURS are as wanted then, else WHY is 2. */
    private static boolean isSo(int points, String formula) {
        String text = "points " + points + " colour not same * (" + formula + ") + same * not (" + formula + ") ;";
        int fault = Told.scheme(text);
        Check.due("may be read: " + text, fault == 0 || fault == 6 + 16 * text.length(), true);
        return fault == 0;
    }

    private static void holds(int points, String formula) {
        Check.due("for all of " + points + ": " + formula, isSo(points, formula), true);
    }

    private static void fails(int points, String formula) {
        Check.due("not for all of " + points + ": " + formula, isSo(points, formula), false);
    }

    /** "N 1 to 12". */
    private static void howManyPoints() {
        for (int n = 0; n <= 20; n++) {
            ShareTable x = new ShareTable();
            boolean fits = n >= 1 && n <= 12;
            Check.due("points " + n, Told.scheme(x, "points " + n + " colour not same;"), fits ? 0 : 4 + 16 * 7);
            Check.due("things then", x.count(0), fits && n > 1 ? 2 : 1);
            Check.due("order then", x.order(), fits ? n : 1);
            Check.due("to be undone then", x.count(1), fits ? 1 : 0);
        }
    }

    /** "points x, y (0 to N less 1)"; "same (1 if x is y)". */
    private static void factsOfPoints() {
        for (int n = 2; n <= 12; n++) {
            holds(n, "x < " + n);
            fails(n, "x < " + (n - 1));
            holds(n, "y < " + n);
            fails(n, "y < " + (n - 1));
            fails(n, "0 < x");
            fails(n, "0 < y");
            holds(n, "0 - 1 < x and 0 - 1 < y");
            holds(n, "same = (x = y)");
            holds(n, "same = 0 or same = 1");
        }
        holds(1, "x = 0 and y = 0 and far = 0 and ring = 0 and same");
        holds(2, "x = y or x + y = 1");
        fails(3, "x = y or x + y = 1");
    }

    /** "far (y less x, not below 0), ring (the less of far and N less far)". */
    private static void farAndRing() {
        for (int n = 2; n <= 12; n++) {
            holds(n, "far = (y - x) * (x < y) + (x - y) * (y < x)");
            holds(n, "far < " + n);
            fails(n, "far < " + (n - 1));
            holds(n, "0 - 1 < far");
            holds(n, "ring = far or ring = " + n + " - far");
            holds(n, "ring < far + 1 and (ring < " + n + " - far + 1)");
            holds(n, "ring < " + (n / 2 + 1));
            fails(n, "ring < " + n / 2);
        }
    }

    /** "Of not, and, or, < and = comes 1 or 0; what is not 0 is so". */
    private static void oneOrZero() {
        holds(2, "not 0 = 1");
        holds(2, "not 1 = 0");
        holds(2, "not 2 = 0");
        holds(2, "not (0 - 1) = 0");
        holds(2, "not not 9999 = 1");
        holds(2, "(2 and 4) = 1");
        holds(2, "(2 and 0) = 0");
        holds(2, "(0 and 2) = 0");
        holds(2, "((0 - 1) and 1) = 1");
        holds(2, "(0 or 0) = 0");
        holds(2, "(0 or 7) = 1");
        holds(2, "(7 or 0) = 1");
        holds(2, "(7 or 7) = 1");
        holds(2, "(1 < 2) = 1");
        holds(2, "(2 < 2) = 0");
        holds(2, "(3 < 2) = 0");
        holds(2, "(0 - 1 < 0) = 1");
        holds(2, "(5 = 5) = 1");
        holds(2, "(5 = 6) = 0");
        holds(2, "0000 = 0 and 9999 = 9998 + 1");
    }

    /** "TEST { and TEST or or TEST }, from the left"; sums and products from the left, too. */
    private static void fromTheLeft() {
        holds(2, "(1 or 1 and 0) = 0");
        holds(2, "(0 and 0 or 1) = 1");
        holds(2, "(0 and 1 or 1 and 1) = 1");
        holds(2, "(1 or 0 and 0 or 0) = 0");
        holds(2, "9 - 4 - 3 = 2");
        holds(2, "9 - 4 + 3 = 8");
        holds(2, "2 * 3 * 4 = 24");
    }

    private static void whatBindsCloser() {
        holds(2, "1 + 2 * 3 = 7");
        holds(2, "2 * 3 + 1 = 7");
        holds(2, "7 - 2 * 3 = 1");
        holds(2, "not 0 * 5 = 5");
        holds(2, "not 1 + 1 = 1");
        holds(2, "(not 1 = 0) = 1");
        holds(2, "(1 + 1 < 1 + 2) = 1");
        holds(2, "(1 < 2 and 2 < 3) = 1");
        holds(2, "(1 and 2 = 2) = 1");
    }

    /** "TEST: SUM, or SUM < SUM, or SUM = SUM". */
    private static void oneTestOnly() {
        fault(HEAD + "1 < 2 < 3;", 1, 22);
        fault(HEAD + "1 < 2 = 3;", 1, 22);
        fault(HEAD + "1 = 2 < 3;", 1, 22);
        fault(HEAD + "1 = 2 = 3;", 1, 22);
        holds(2, "((1 < 2) < 3) = 1");
        holds(2, "1 < 2 and 2 < 3");
    }

    /** "ints wrap": 8192 * 8192 * 32 is one more than the greatest. */
    private static void intsWrap() {
        holds(2, "0 < 8192 * 8192 * 31");
        holds(2, "8192 * 8192 * 32 < 0");
        holds(2, "0 < 8192 * 8192 * 32 - 1");
        holds(2, "8192 * 8192 * 32 - 1 + 1 < 0");
        holds(2, "8192 * 8192 * 64 = 0");
        holds(2, "8192 * 8192 * 64 + 1 = 1");
        holds(2, "0 - 8192 * 8192 * 32 < 0");
        holds(2, "0 < 9999 * 9999 * 21");
        holds(2, "9999 * 9999 * 22 < 0");
        Check.due("a colour that wraps to 1", Told.scheme("points 2 colour (8192 * 8192 * 64 + 1) * far;"), 0);
        Check.due("a colour that does not", Told.scheme("points 2 colour (8192 * 8192 * 32 + 1) * far;") % 16, 6);
    }

    /** "no PART lies within 5 of not and ( )": within four, in all ways. */
    private static void fourDeep() {
        for (int ways = 0; ways < 16; ways++) {
            StringBuilder ahead = new StringBuilder();
            StringBuilder behind = new StringBuilder();
            for (int n = 0; n < 4; n++) {
                boolean isNot = (ways >> n & 1) == 1;
                ahead.append(isNot ? "not " : "( ");
                behind.append(isNot ? "" : " )");
            }
            for (String part : new String[] {"1", "x", "y", "far", "ring", "same"}) {
                int fault = Told.scheme(HEAD + ahead + part + behind + ";");
                Check.due("four deep: " + ahead + part, fault == 0 || fault % 16 == 6, true);
            }
        }
    }

    /** FAULT 5 at the token that lies within five others, whatever PART it starts. */
    private static void fiveDeep() {
        for (int ways = 0; ways < 32; ways++) {
            StringBuilder text = new StringBuilder(HEAD);
            for (int n = 0; n < 5; n++) {
                text.append((ways >> n & 1) == 1 ? "not " : "( ");
            }
            for (String part : new String[] {"1", "9999", "x", "y", "far", "ring", "same", "not", "(", "not 1", "( 1"}) {
                fault(text + part, 5, text.length());
            }
            fault(text.toString(), 1, text.length());
        }
    }

    /** It is how deep they lie that counts, not how many there are. */
    private static void notTooDeep() {
        fault("points 2 colour " + "not not not not 0 + ".repeat(8) + "not same;", 0, 0);
        fault("points 2 colour " + "(((( 0 )))) + ".repeat(8) + "not same;", 0, 0);
        fault("points 2 colour not not (not same);", 0, 0);
        fault("points 2 colour not not not (not same);", 5, 33);
        fault("points 2 colour (((1))) - (((same)));", 0, 0);
        fault("points 2 colour ((((1)) * (1))) - ((((same)) * ((1))));", 0, 0);
        fault("points 2 colour (((((1)) * (1))) - same);", 5, 21);
        fault("points 2 colour ((((1)))) - (((((same", 5, 33);
        fault("points 2 colour ((1) + (1) + ((1) + ((1)))) - same - not not not not not 1", 5, 73);
    }

    /** A formula that fills the TAPE, and one in which as much as can be waits for what stands behind. */
    private static void longestFormula() {
        String text = "points 2 colour " + "0+".repeat(487) + "not same;";
        fault(text + " ", 0, 0);
        fault(text + "1", 1, 999);
        fault(text + "\n1", 0, 0);
        Check.due("its length", text.length(), 999);
        fault("points 2 colour " + "1*".repeat(487) + "not same;", 0, 0);
        fault("points 2 colour " + "not ".repeat(4) + "0" + " and 1".repeat(161) + ";", 6, 16 + 17 + 6 * 161 + 1);
        String within = "not same";
        for (int deep = 0; deep < 4; deep++) {
            within = "( 0 or 0 < 0 + 1 * " + within + " )";
        }
        fault("points 2 colour 0 or 0 < 0 + 1 * " + within + ";", 5, 16 + 17 + 4 * 19 + 4);
        within = within.replace("not same", "far");
        fault("points 2 colour 0 or 0 < 0 + 1 * " + within + ";", 0, 0);
        fault("points 2 colour 0 or 0 < 0 + 1 * " + within.replace("far", "same") + ";", 6, 16 + 17 + 4 * 21 + 4 + 1);
    }

    /** "the least": a token within five others that is none, or can't stand there, has FAULT 1. */
    private static void leastOfADeepToken() {
        String deep = HEAD + "not not not not not ";
        for (String token : new String[] {"12345", "z", "and", "or", "of", ")", ";", "<", "=", "+", "-", "*", "#", "X", "reversedd"}) {
            fault(deep + token, 1, deep.length());
        }
        fault(deep, 1, deep.length());
    }

    /** FAULT 1 at the end where a text is cut, and at a sign that is none, at each of its tokens. */
    private static void cutOrSpoilt() {
        String text = "points 4 colour ( x + y * 2 - far < ring ) and not same or 3 = y * ( not x ) ; ";
        Check.due("it is read: " + text, Told.scheme(text) % 16, 6);
        for (int at = 0; at < text.length(); at++) {
            if (text.charAt(at) != ' ' && (at == 0 || text.charAt(at - 1) == ' ')) {
                fault(text.substring(0, at), 1, at);
                fault(text.substring(0, at) + "! " + text.substring(at), 1, at);
            }
        }
        fault(text + "!", 1, text.length());
    }

    private static void nothingBehind() {
        fault("points 2 colour not same; ;", 1, 26);
        fault("points 2 colour not same; points 2 colour not same;", 1, 26);
        fault("points 2 colour not same; \n\n ", 0, 0);
        fault("things 2;", 1, 0);
        fault("colour 1", 1, 0);
        fault("points colour 1", 1, 7);
        fault("points 2; colour 1", 1, 8);
        fault(HEAD + "+ 1;", 1, 16);
        fault(HEAD + "- 1;", 1, 16);
        fault(HEAD + "1 +;", 1, 19);
        fault(HEAD + "1 not 1;", 1, 18);
        fault(HEAD + "1 ( 1 );", 1, 18);
        fault(HEAD + "x ) ;", 1, 18);
        fault(HEAD + "( x ( y ) );", 1, 20);
        fault(HEAD + "();", 1, 17);
        fault(HEAD + "1 and;", 1, 21);
        fault(HEAD + "1 and or 1;", 1, 22);
        fault(HEAD + "times;", 1, 16);
    }

    /** "6 (SCHEME, at the end)", "the end being one at the text's length". */
    private static void atTheEnd() {
        fault("points 2 colour 0;", 6, 18);
        fault("points 2 colour 0 ; ", 6, 20);
        fault("points 2 colour 0;\n\n  \n", 6, 23);
        String long1000 = "points 2 colour 0;" + " ".repeat(982);
        fault(long1000, 6, 1000);
    }

    private static void why(String text, int why) {
        ShareTable x = new ShareTable();
        Check.due("fault of " + text, Told.scheme(x, text), why == 0 ? 0 : 6 + 16 * text.length());
        Check.due("why of " + text, x.why(), why);
        Check.due("done by " + text, x.count(1), why == 0 ? 1 : 0);
    }

    /** "1 all are 0 to 5, and of the greatest and those below it each is there". */
    private static void whyOne() {
        why("points 11 colour ring;", 0);
        why("points 12 colour ring;", 1);
        why("points 6 colour y - x + 6 * (y < x);", 0);
        why("points 7 colour y - x + 7 * (y < x);", 1);
        why("points 2 colour not same;", 0);
        why("points 2 colour 0 - not same;", 1);
        why("points 2 colour 6 * not same;", 1);
        why("points 2 colour 5 * not same;", 1);
        why("points 2 colour 2 * not same;", 1);
        why("points 2 colour 1;", 1);
        why("points 1 colour 0;", 0);
        why("points 1 colour 1;", 1);
        why("points 1 colour 0 - 1;", 1);
        why("points 5 colour ring;", 0);
        why("points 5 colour ring + (ring = 2);", 1);
        why("points 4 colour 9999 * 9999;", 1);
        why("points 12 colour not same + 4 * (x = 11 and y = 0) + 8 * (x = 0 and (y = 11));", 1);
    }

    /** "2 that of x, y is 0 just if x is y". */
    private static void whyTwo() {
        why("points 2 colour 0;", 2);
        why("points 2 colour same;", 2);
        why("points 1 colour not same;", 0);
        why("points 3 colour not same * not (x = 2 and (y = 1));", 2);
        why("points 3 colour not same + (x = 2 and (y = 2));", 2);
        // the last point and the first, and each side of a pair
        why("points 12 colour not same + (x = 11 and (y = 11));", 2);
        why("points 12 colour not same + (x = 0 and (y = 0));", 2);
        why("points 3 colour not same - (x = 0 and (y = 1));", 2);
        why("points 3 colour not same - (x = 1 and (y = 0));", 2);
        why("points 12 colour not same - (x = 11 and (y = 10));", 2);
    }

    /** "3 the COLOUR of y, x hangs on that of x, y alone", "4 ..", "5 for j, i they are as many". */
    private static void whyThreeToFive() {
        why("points 3 colour y - x + 3 * (y < x);", 0);
        why("points 3 colour not same * (1 + (x = 0));", 3);
        why("points 12 colour not same + (x = 11 and (y = 10));", 3);
        // from 0 on there is one COLOUR, back to it there are two
        String back = " + 2 * (x = 1 and (y = 0)) + 3 * (x = 2 and (y = 0)) + 4 * (x * y = 2);";
        why("points 3 colour (x = 0) * not same" + back, 3);
        why("points 3 colour (y = 0) * not same" + back.replace("y = 0", "z").replace("x = ", "y = ").replace("z", "x = 0"), 3);
        why("points 4 colour ring;", 0);
        why("points 4 colour far;", 4);
        why("points 12 colour not same + (x + y = 21 and (not same));", 4);
        why("points 4 colour not same + (x + y = 3);", 0);
        why("points 3 colour (x < y) + 2 * (y < x);", 4);
        why("points 2 colour (x < y) + 2 * (y < x);", 4);
        why(Texts.SIX_IN_TWO_ORDERS, 5);
    }

    /** "asked in this order": two are not so, the first is told. */
    private static void firstWhy() {
        why("points 2 colour 2 * same;", 1);
        why("points 4 colour 6 * (x < y);", 1);
        why("points 4 colour (x = 0) * not same;", 2);
        why("points 4 colour (x < y);", 2);
        why("points 4 colour not same + (x = 0 and (y = 1));", 3);
        why("points 4 colour (x < y) + 2 * (y < x);", 4);
    }

    /** "WHY the COLOURS of the SCHEME read last were not as wanted; 0: they were, none was read (without another FAULT)". */
    private static void whyStays() {
        ShareTable x = new ShareTable();
        Check.due("none was read", x.why(), 0);
        Told.scheme(x, "points 13");
        Told.scheme(x, "points 2 colour");
        Told.scheme(x, "points 2 colour ((((((");
        Check.due("none was read without another fault", x.why(), 0);
        Told.scheme(x, "points 4 colour far;");
        Check.due("not as wanted", x.why(), 4);
        Told.scheme(x, "points 13");
        Told.scheme(x, "points 2 colour");
        Told.scheme(x, "points 2 colour ((((((");
        Check.due("another fault: it was not read", x.why(), 4);
        Told.table(x, "things 2;");
        Told.table(x, "things");
        x.undo();
        x.again();
        x.mark(0, false);
        x.mark(0, true);
        Check.due("no scheme was read", x.why(), 4);
        Told.scheme(x, "points 2 colour 0;");
        Check.due("another was", x.why(), 2);
        Told.scheme(x, "points 2 colour not same;");
        Check.due("as wanted", x.why(), 0);
        x.undo();
        Check.due("undone, it was read still", x.why(), 0);
    }

    /** "It becomes the TABLE then: i and j put together give so many of k". */
    private static void itsTable() {
        ShareTable x = Told.ofScheme("points 6 colour y - x + 6 * (y < x);");
        for (int i = 0; i < 6; i++) {
            Check.due("reverse of " + i, x.thing(i, 0), (6 - i) % 6);
            for (int j = 0; j < 6; j++) {
                for (int k = 0; k < 6; k++) {
                    Check.due("round " + i + " " + j + " " + k, x.gives(i, j, k), (i + j) % 6 == k ? 1 : 0);
                }
            }
        }
        x = Told.ofScheme("points 12 colour not same;");
        Check.due("of twelve points", x.gives(1, 1, 0), 11);
        Check.due("of twelve points, of each other", x.gives(1, 1, 1), 10);
        Check.due("the unit", x.gives(0, 1, 1), 1);
        Check.due("the unit gives no other", x.gives(0, 1, 0), 0);
    }
}
