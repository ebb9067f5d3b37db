/** The bounds of the TAPE and of its TOKENS, each on both sides. */
final class TapeBoundsTest {
    private static final String TABLE_OF_24 = "things 2;times 1 1gives;";
    private static final long BLANKS = 0x2020202020202020L;

    public static void main(String[] args) {
        signsThatCome();
        highestFirst();
        leftOut();
        upToThousand();
        beyondThousand();
        takenByReading();
        leftByOthers();
        blanksBetween();
        longWords();
        longNumbers();
        otherSigns();
        signsForNumbers();
        signsInFormulas();
        Check.end("TapeBoundsTest");
    }

    private static ShareTable withBlanks(int blanks) {
        ShareTable x = new ShareTable();
        Told.feed(x, " ".repeat(blanks));
        return x;
    }

    /** "10 and 32 .. 126", at each of the 24 places. */
    private static void signsThatCome() {
        for (int sign = 0; sign < 256; sign++) {
            int due = sign == 10 || sign >= 32 && sign <= 126 ? 1 : 0;
            for (int place = 0; place < 24; place++) {
                long[] words = new long[3];
                words[place / 8] = (long) sign << 8 * (7 - place % 8);
                ShareTable x = new ShareTable();
                Check.due("sign " + sign + " at " + place, x.feed(words[0], words[1], words[2]), due);
                Check.due("sign " + sign + " counted", x.count(3), due);
            }
        }
    }

    /** "the bytes of a, b, c, of each the highest first". */
    private static void highestFirst() {
        long a = Told.bytes(TABLE_OF_24, 0);
        long b = Told.bytes(TABLE_OF_24, 8);
        long c = Told.bytes(TABLE_OF_24, 16);
        ShareTable x = new ShareTable();
        Check.due("24 signs at once", x.feed(a, b, c), 24);
        Check.due("a, b, c", x.table(), 0);
        Check.due("a, b, c are read", x.count(0), 2);
        x.feed(b, a, c);
        Check.due("b, a, c is another text", x.table(), 1);
        x.feed(a, c, b);
        Check.due("a, c, b is another text", x.table() != 0, true);
        x.feed(Long.reverseBytes(a), b, c);
        Check.due("the lowest first is another text", x.table(), 1);
    }

    /** "others .. are left out": what stands round them comes together. */
    private static void leftOut() {
        ShareTable x = new ShareTable();
        Check.due("left out between", Told.feed(x, "thi\u0000\u0009ngs\u007f\u00a0 \u001f2\u0080\u00ff;"), 9);
        Check.due("left out, the rest is one word", x.table(), 0);
        Check.due("a feed of none", x.feed(-1L, 0L, 0x7f1f0b0900808182L), 0);
        Check.due("an empty tape is no table", x.table(), 1);
        Check.due("an empty tape is no scheme", x.scheme(), 1);
    }

    /** "at most 1,000 signs": 999, 1,000, and one more. */
    private static void upToThousand() {
        ShareTable x = withBlanks(999);
        Check.due("999 signs", x.count(3), 999);
        Check.due("nothing comes", x.feed(0, 0, 0), 999);
        Check.due("the thousandth", x.feed(0, 0, ' '), 1000);
        Check.due("one more is left out", x.feed(0, 0, ' '), 1000);
        Check.due("24 more are left out", x.feed(BLANKS, BLANKS, BLANKS), 1000);
        Check.due("the end is at 1,000", x.table(), 1 + 16 * 1000);
        Check.due("it is empty then", x.count(3), 0);
        Told.feed(x, " ".repeat(999));
        Check.due("999 signs, one after what can't come", x.feed(0x7f00000000000000L, 0, ' ' << 16 | 1), 1000);
        Check.due("the end of a scheme is at 1,000", x.scheme(), 1 + 16 * 1000);
    }

    /** "what is beyond 1,000": of a feed that goes over it the first signs come. */
    private static void beyondThousand() {
        ShareTable x = withBlanks(976);
        Check.due("all of it comes", Told.feed(x, TABLE_OF_24), 1000);
        Check.due("the thousandth sign is read", x.table(), 0);
        x = withBlanks(977);
        Check.due("one is left out", Told.feed(x, TABLE_OF_24), 1000);
        Check.due("the sign behind the thousandth is not read", x.table(), 1 + 16 * 1000);
        for (int come = 0; come <= 24; come++) {
            x = withBlanks(1000 - come);
            Check.due("of 24 come " + come, Told.feed(x, TABLE_OF_24), 1000);
            Check.due("read with " + come, x.table(), Told.table(" ".repeat(1000 - come) + TABLE_OF_24.substring(0, come)));
        }
    }

    /** "what reads it takes it: it is empty then", with each FAULT and with none. */
    private static void takenByReading() {
        String[] tables = {"things 2;", "x", "things 7", "things 2; reverse 1 1", ""};
        int[] tableKinds = {0, 1, 4, 3, 1};
        for (int i = 0; i < tables.length; i++) {
            ShareTable x = new ShareTable();
            Check.due("kind of " + tables[i], Told.table(x, tables[i]) % 16, tableKinds[i]);
            Check.due("taken by table: " + tables[i], x.count(3), 0);
            Check.due("fed anew: " + tables[i], x.feed('a', 'b', 'c'), 3);
        }
        String[] schemes = {"points 1 colour 0;", "x", "points 13", "points 2 colour not not not not not x", "points 2 colour 7;"};
        int[] schemeKinds = {0, 1, 4, 5, 6};
        for (int i = 0; i < schemes.length; i++) {
            ShareTable x = new ShareTable();
            Check.due("kind of " + schemes[i], Told.scheme(x, schemes[i]) % 16, schemeKinds[i]);
            Check.due("taken by scheme: " + schemes[i], x.count(3), 0);
            Check.due("fed anew: " + schemes[i], x.feed('a', 'b', 'c'), 3);
        }
    }

    /** Only table and scheme read the TAPE. */
    private static void leftByOthers() {
        ShareTable x = Told.ofScheme("points 4 colour ring;");
        x.mark(0, false);
        x.mark(0, true);
        Told.feed(x, "thin");
        x.quotient(1);
        x.undo();
        x.again();
        x.fuse(0);
        x.wreath(0);
        x.mark(0, true);
        x.rows();
        x.twin();
        Check.due("the tape is left", x.count(3), 4);
        Told.feed(x, "gs 2;");
        Check.due("and read on", x.table(), 0);
        Check.due("as what was fed", x.count(0), 2);
    }

    /** "blanks (10, 32) between where one likes", not within a token. */
    private static void blanksBetween() {
        Check.due("as few as can be", Told.table("things3;times 1 2gives 1of 0 2of 1;reverse 1 2;"), 0);
        Check.due("a digit behind a letter", Told.table("things3;times1 2gives1of0 2of1;reverse1 2;"), 0);
        Check.due("many", Told.table("\n\n things \n3 \n;\n times\n1\n\n2\ngives\n1\nof\n0\n;\n\nreverse \n 1 \n2 \n ; \n"), 0);
        Check.due("few in a scheme", Told.scheme("points4colour(x+y<9)-same;"), 0);
        Check.due("many in a scheme", Told.scheme("\npoints\n4 colour\n (\nx\n + y\n\n<\n9 ) -\nsame\n ;\n\n"), 0);
        Check.due("a blank within a word", Told.table("thin gs 3;"), 1);
        Check.due("a line's end within a word", Told.table("things 3; ti\nmes"), 1 + 16 * 10);
        Check.due("no blank between numbers", Told.table("things 3; times 12"), 4 + 16 * 16);
        Check.due("a blank within a number", Told.table("things 3; times 1 1 gives 9 9 of 0"), 1 + 16 * 28);
        Check.due("no blank between words", Told.scheme("pointsx"), 1);
        Check.due("no blank between facts", Told.scheme("points 3 colour xy"), 1 + 16 * 16);
        Check.due("a token's place is behind its blanks", Told.table(" \n things \n  7"), 4 + 16 * 13);
        Check.due("blanks alone", Told.table("\n \n "), 1 + 16 * 4);
        Check.due("the end behind blanks", Told.table("things 3 \n "), 1 + 16 * 11);
    }

    /** "WORDS (letters a .. z, 8 at most)"; no WORD of the language has 8, so both are wrong, at the first sign. */
    private static void longWords() {
        Check.due("seven, the longest that stands", Told.table("things 3; reverse 1 2;"), 0);
        Check.due("eight", Told.table("things 3; reversed 1 2;"), 1 + 16 * 10);
        Check.due("nine", Told.table("things 3; reversedd 1 2;"), 1 + 16 * 10);
        Check.due("a long word is not cut", Told.table("thingsthings 3;"), 1);
        Check.due("nor cut behind its eighth", Told.scheme("points 3 colour aaaaaaaax;"), 1 + 16 * 16);
        Check.due("a to z", Told.scheme("points 3 colour x{"), 1 + 16 * 17);
        Check.due("a to z, below", Told.scheme("points 3 colour x`"), 1 + 16 * 17);
        Check.due("capitals are none", Told.table("Things 3;"), 1);
    }

    /** "NUMBERS (1 to 4 digits ..)": four are one, five are none, at their first sign. */
    private static void longNumbers() {
        Check.due("four digits", Told.table("things 0006;"), 0);
        Check.due("five digits", Told.table("things 00006;"), 1 + 16 * 7);
        Check.due("four digits that are too many", Told.table("things 9999;"), 4 + 16 * 7);
        Check.due("five that are too many", Told.table("things 10000;"), 1 + 16 * 7);
        ShareTable x = Told.ofTable("things 2; times 01 0001 gives 0999 of 000 007of01;");
        Check.due("zeros ahead", x.gives(1, 1, 0), 999);
        Check.due("zeros ahead, and a letter behind", x.gives(1, 1, 1), 7);
        Check.due("five digits of a share", Told.table("things 2; times 1 1 gives 00999 of 0;"), 1 + 16 * 26);
        Check.due("five digits of a thing", Told.table("things 2; times 00001 1 gives ;"), 1 + 16 * 16);
        Check.due("four digits of points", Told.scheme("points 0001 colour 0000;"), 0);
        Check.due("five digits of points", Told.scheme("points 00001 colour 0;"), 1 + 16 * 7);
        Check.due("9999 in a formula", Told.scheme("points 2 colour (9998 < 9999) - same;"), 0);
        Check.due("10000 in a formula", Told.scheme("points 2 colour (9998 < 10000) - same;"), 1 + 16 * 24);
        Check.due("a letter right behind four", Told.scheme("points 0002colour 1-same;"), 0);
    }

    /** "the signs ( ) < = + - * ;  All else .. is none". */
    private static void otherSigns() {
        for (char sign = 33; sign < 127; sign++) {
            boolean isDigit = sign >= '0' && sign <= '9';
            // a digit makes the number another one: 20 to 29 things
            int due = sign == ';' ? 0 : isDigit ? 4 + 16 * 7 : 1 + 16 * 8;
            Check.due("things 2" + sign, Told.table("things 2" + sign), due);
            if (!isDigit && sign != ';') {
                Check.due(sign + " ahead", Told.table(sign + " things 2;"), 1);
            }
        }
    }

    /** Where a NUMBER must stand nothing else is taken for one, nor where a PART must. */
    private static void signsForNumbers() {
        for (char sign = 33; sign < 127; sign++) {
            boolean isDigit = sign >= '0' && sign <= '9';
            boolean fits = sign >= '1' && sign <= '6';
            Check.due("things " + sign, Told.table("things " + sign), fits ? 1 + 16 * 8 : isDigit ? 4 + 16 * 7 : 1 + 16 * 7);
            boolean starts = isDigit || sign == '(' || sign == 'x' || sign == 'y';
            Check.due("colour " + sign, Told.scheme("points 3 colour " + sign), 1 + 16 * (starts ? 17 : 16));
        }
    }

    private static void signsInFormulas() {
        String text = "points 3 colour x";
        for (char sign = 33; sign < 127; sign++) {
            int due;
            if (sign == ';') {
                due = 6 + 16 * 18;
            } else if ("<=+-*".indexOf(sign) >= 0) {
                due = 1 + 16 * 18;
            } else if (sign >= 'a' && sign <= 'z') {
                due = 1 + 16 * 16;
            } else {
                due = 1 + 16 * 17;
            }
            Check.due(text + sign, Told.scheme(text + sign), due);
        }
    }
}
