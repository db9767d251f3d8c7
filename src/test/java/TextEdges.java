/** The edges of what the document says of THE TAPE, the TEXTS and their FAULTS (Terms 2, promises 8 to 11). */
public final class TextEdges extends Checks {
    private static final int BLANKS = 0x20202020;
    private static final String SIGN = "sign in 1 out 1;";
    private static final String SHIFT = "clerk 1 from 1 for 1 at 1;";
    private static final String[] LINE = {"go 1;", SIGN, SHIFT};
    private static final int[] MOST_LINES = {16, 6, 12};

    public static void main(String[] args) {
        tapeGrows();
        tapeIsFull();
        tapeIsCut();
        cutWithin();
        noSuchText();
        emptyTexts();
        everyByte();
        everyByteAtALine();
        numbers();
        theEnd();
        linesOfEachText();
        boundsOfSigns();
        boundsOfShifts();
        parts();
        openOnes();
        openOnesClose();
        openOnesAfterAFault();
        deepestAndLongest();
        whatCannotStandThere();
        faultsByPlace();
        faultIsOfTheLatest();
        textStays();
        toldAnew();
        wrapping();
        heldTellings();
        untold();
        whichLine();
        whatIsKnown();
        finish();
    }

    private static int four(String text) {
        return text.charAt(0) << 24 | text.charAt(1) << 16 | text.charAt(2) << 8 | text.charAt(3);
    }

    // ---- the tape ----

    private static void tapeGrows() {
        about("8: Twenty bytes come behind the TAPE, of each number the highest first");
        IsHeIn x = house(1);
        due("feed", x.feed(four("go 1"), four("23;c"), four("ome "), four("456;"), BLANKS), 20);
        due("text(0)", x.text(0), 2);
        due("go", x.of(0, 6), 123);
        due("come", x.of(0, 7), 456);
        due("feed on the tape that is empty again", x.feed(BLANKS, BLANKS, BLANKS, BLANKS, four("go 7")), 20);
        due("feed behind it", x.feed(four("8;  "), BLANKS, BLANKS, BLANKS, BLANKS), 40);
        due("text(0)", x.text(0), 1);
        due("a number over both", x.of(0, 6), 78);
        for (int at = 0; at < 20; at++) {
            int[] n = {BLANKS, BLANKS, BLANKS, BLANKS, BLANKS};
            n[at / 4] |= 0xff << 24 - at % 4 * 8;
            due("feed", x.feed(n[0], n[1], n[2], n[3], n[4]), 20);
            due("byte 255 alone", x.text(0), NONE);
            due("its place", x.fault(1), at);
        }
    }

    private static void tapeIsFull() {
        about("8: NONE, and nothing comes, if there would be more than 400");
        IsHeIn x = house(1);
        for (int i = 1; i <= 20; i++) {
            due("feed", x.feed(BLANKS, BLANKS, BLANKS, BLANKS, BLANKS), 20 * i);
        }
        due("the 401st byte", x.feed(-1, -1, -1, -1, -1), NONE);
        no("it has no more", x.end(401));
        yes("it has as many", x.end(400));
        due("again", x.feed(-1, -1, -1, -1, -1), NONE);
        due("nothing came: blanks alone", x.text(0), 0);
        due("after the text it is empty", x.feed(BLANKS, BLANKS, BLANKS, BLANKS, BLANKS), 20);
        x.end(0);
        write(x, times(381, " "));
        due("381 and 20", x.feed(-1, -1, -1, -1, -1), NONE);
        no("nothing came", x.end(382));
        yes("381", x.end(381));
        yes("one less", x.end(380));
        due("380 and 20", x.feed(BLANKS, BLANKS, BLANKS, BLANKS, four("go 5")), 400);
        due("fault at the end", x.text(0), NONE);
        due("at 400", x.fault(1), 400);
    }

    private static void tapeIsCut() {
        about("9: The TAPE has its first n bytes alone");
        IsHeIn x = house(1);
        yes("none of none", x.end(0));
        no("one of none", x.end(1));
        no("less than none", x.end(-1));
        write(x, "go 12345678901234567");
        no("one more", x.end(21));
        no("MAX", x.end(MAX));
        no("-1", x.end(-1));
        no("MIN", x.end(MIN));
        yes("all", x.end(20));
        yes("one less", x.end(19));
        no("what was cut is gone", x.end(20));
        yes("all of it", x.end(6));
        due("feed behind it", x.feed(four(";com"), four("e 45"), four("6;  "), BLANKS, BLANKS), 26);
        due("text(0)", x.text(0), 2);
        due("the first bytes stayed", x.of(0, 6), 123);
        due("the cut ones are written over", x.of(0, 7), 456);
        write(x, "go 9;");
        yes("none", x.end(0));
        due("an empty text", x.text(0), 0);
        due("nothing is told", x.of(0, 6), 100);
    }

    private static void cutWithin() {
        about("9: The TAPE has its first n bytes alone; 2: (the end: the text's length)");
        IsHeIn x = house(1);
        write(x, "go 1;gone");
        yes("cut within a word", x.end(7));
        due("go stands alone", x.text(0), NONE);
        due("its fault is the end", x.fault(1), 7);
        write(x, "go 12345;");
        yes("cut within a number", x.end(7));
        due("four digits stand alone", x.text(0), NONE);
        due("the fault is the end", x.fault(1), 7);
        write(x, "go 1;    x");
        yes("cut within blanks", x.end(8));
        due("one line", x.text(0), 1);
        write(x, "go 1 when 1=1;");
        yes("cut behind 1", x.end(4));
        due("no line", x.text(0), NONE);
        due("the fault is the end", x.fault(1), 4);
        write(x, "go 2;go 3;go 4;");
        yes("cut behind a line", x.end(5));
        due("one line", x.text(0), 1);
        due("go", x.of(0, 6), 2);
    }

    // ---- texts ----

    private static void noSuchText() {
        about("10: NONE: no such one (fault() tells 0); the TAPE is empty in each case");
        for (int k : new int[] {-1, 3, MIN, MAX}) {
            IsHeIn x = house(1);
            good(x, 0, "go 5;", 1);
            good(x, 1, SIGN, 1);
            good(x, 2, SHIFT, 1);
            due("a fault", tell(x, 0, "go"), NONE);
            due("text(" + k + ")", tell(x, k, "go 6;"), NONE);
            due("fault(0)", x.fault(0), 0);
            due("fault(1)", x.fault(1), NONE);
            no("the tape is empty", x.end(1));
            due("the law", x.of(0, 6), 5);
            for (int what = 8; what <= 10; what++) {
                due("look(" + what + ")", x.look(what), 1);
            }
        }
    }

    private static void emptyTexts() {
        about("2: TEXTS (empty at first)");
        IsHeIn x = house(1);
        for (int k = 0; k < 3; k++) {
            due("lines of a new one", x.look(8 + k), 0);
            due("the empty tape", x.text(k), 0);
            good(x, k, "", 0);
            good(x, k, " \n\n ", 0);
            due("lines", x.look(8 + k), 0);
            good(x, k, LINE[k], 1);
            due("lines", x.look(8 + k), 1);
            due("the empty tape", x.text(k), 0);
            due("lines", x.look(8 + k), 0);
        }
    }

    /** Each byte between go and 1. */
    private static void everyByte() {
        about("2: Blanks (32, 10) between; letters, digits as many as stand together; 1 what can't stand there");
        for (int b = 0; b < 256; b++) {
            boolean isLetter = b >= 'a' && b <= 'z' || b >= 'A' && b <= 'Z';
            boolean isGood = b == 32 || b == 10 || b >= '0' && b <= '9';
            IsHeIn x = house(1);
            x.feed('g' << 24 | 'o' << 16 | b << 8 | '1', ';' << 24 | 0x202020, BLANKS, BLANKS, BLANKS);
            due("go, byte " + b + ", 1;", x.text(0), isGood ? 1 : NONE);
            due("byte " + b + ": fault(0)", x.fault(0), isGood ? 0 : 1);
            due("byte " + b + ": fault(1)", x.fault(1), isGood ? NONE : isLetter ? 0 : 2);
            int told = b >= '0' && b <= '9' ? (b - '0') * 10 + 1 : 1;
            due("byte " + b + ": go", x.of(0, 6), isGood ? told : 100);
        }
        IsHeIn x = house(1);
        good(x, 0, "\n go\n\n7 \n; ", 1);
        due("go", x.of(0, 6), 7);
        good(x, 0, "go1when1=1and2=2or3=4;come2;", 2);
        bad(0, "go1when1=1andnot2=2;", 1, 10);
        bad(0, "gocome 1;", 1, 0);
        bad(0, "go 1 wh en 1=1;", 1, 5);
    }

    /** Each byte where a line may begin. */
    private static void everyByteAtALine() {
        about("2: Blanks (32, 10) between; 1 what can't stand there");
        for (int k = 0; k < 3; k++) {
            for (int b = 0; b < 256; b++) {
                boolean isBlank = b == 32 || b == 10;
                int lead = LINE[k].length();
                for (int lines = 0; lines < 2; lines++) {
                    IsHeIn x = house(1);
                    due("text(" + k + "), byte " + b, tell(x, k, times(lines, LINE[k]) + (char) b), isBlank ? lines : NONE);
                    due("fault(0)", x.fault(0), isBlank ? 0 : 1);
                    due("fault(1)", x.fault(1), isBlank ? NONE : lines * lead);
                }
            }
        }
    }

    private static void numbers() {
        about("2: NUMBERS of 1 to 4 digits or none");
        IsHeIn x = house(1);
        String[] texts = {"0", "9", "10", "99", "100", "999", "1000", "0000", "0009", "0999"};
        int[] values = {0, 9, 10, 99, 100, 999, 1000, 0, 9, 999};
        for (int i = 0; i < texts.length; i++) {
            good(x, 0, "go " + texts[i] + ";", 1);
            due("go " + texts[i], x.of(0, 6), values[i]);
        }
        good(x, 0, "go 9999-9000;", 1);
        due("9999-9000", x.of(0, 6), 999);
        for (String five : new String[] {"10000", "00000", "00001", "99999", "4294967297", times(390, "1")}) {
            bad(0, "go " + five + ";", 1, 3);
            bad(0, "go 1 when " + five + "=1;", 1, 10);
            bad(0, "go 7/" + five + ";", 1, 5);
        }
        bad(1, "sign in 00001 out 1;", 1, 8);
        bad(2, "clerk 00000 from 0 for 1 at 0;", 1, 6);
        bad(0, "go 12 34;", 1, 6);
    }

    private static void endsAt(int k, String words) {
        String[] tokens = words.split(" ");
        String text = "";
        for (String token : tokens) {
            if (!text.isEmpty()) {
                bad(k, text, 1, text.length());
                bad(k, text + " \n", 1, text.length() + 2);
            }
            text = text.isEmpty() ? token : text + " " + token;
        }
        good(house(1), k, text, 1);
    }

    private static void theEnd() {
        about("2: 1 what can't stand there (the end: the text's length)");
        endsAt(0, "go 1 ;");
        endsAt(0, "carry 1 + age * 2 / 3 - guest when not ( clock < 5 or day = 1 ) and rain > 0 * pear ;");
        endsAt(1, "sign in 1 out 999 ;");
        endsAt(2, "clerk 0 from 0 for 24 at 0 ;");
        bad(0, "go 1;come", 1, 9);
        bad(0, "go 1" + times(198, "+1"), 1, 400);
        bad(0, "go 1;" + times(393, " ") + "go", 1, 400);
        bad(1, times(384, " ") + SIGN.substring(0, 15) + " ", 1, 400);
        bad(2, times(374, " ") + SHIFT.substring(0, 25) + "\n", 1, 400);
    }

    private static void linesOfEachText() {
        about("2: 3 (at its KEYWORD) the 17th line of THE LAW, the 7th SIGN, the 13th of SHIFTS");
        for (int k = 0; k < 3; k++) {
            String full = times(MOST_LINES[k], LINE[k]);
            good(house(1), k, full, MOST_LINES[k]);
            good(house(1), k, full + "\n", MOST_LINES[k]);
            bad(k, full + LINE[k], 3, full.length());
            bad(k, full + " \n" + LINE[k], 3, full.length() + 2);
            bad(k, full + LINE[k].substring(0, 2), k == 0 ? 3 : 1, full.length());
            bad(k, full + ";", 1, full.length());
            bad(k, full + "1", 1, full.length());
            bad(k, full + "when", 1, full.length());
            bad(k, full + "\u00ff", 1, full.length());
        }
        String laws = times(16, "go 1;");
        for (String word : new String[] {"go", "come", "carry", "stray", "front", "prior"}) {
            bad(0, laws + word, 3, 80);
            bad(0, laws + word + "x", 1, 80);
        }
        bad(1, times(6, SIGN) + "sign", 3, 96);
        bad(1, times(6, SIGN) + "sign in 0 out 0;", 3, 96);
        bad(2, times(12, SHIFT) + "clerk", 3, 312);
        bad(2, times(12, SHIFT) + "clerk 4", 3, 312);
        bad(0, times(15, "go 1;") + "go 1 go 1;", 1, 80);
    }

    private static void boundsOfSigns() {
        about("2: SIGNS = {sign in N out N ;} (N 1 .. 999: of a thousand)");
        for (int n : new int[] {1, 2, 998, 999}) {
            IsHeIn x = house(1);
            good(x, 1, "sign in " + n + " out " + (1000 - n) + ";", 1);
            due("in", x.sign(0, 0), n);
            due("out", x.sign(0, 1), 1000 - n);
        }
        for (int n : new int[] {0, 1000, 1001, 9999}) {
            bad(1, "sign in " + n + " out 1;", 2, 8);
            bad(1, "sign in 1 out " + n + ";", 2, 14);
            bad(1, "sign in " + n + " out " + n + ";", 2, 8);
            bad(1, "sign in " + n, 2, 8);
        }
        about("2: 6 at most, by number");
        IsHeIn x = house(1);
        good(x, 1, "sign in 1 out 11;sign in 2 out 12;sign in 3 out 13;sign in 4 out 14;sign in 5 out 15;"
            + "sign in 6 out 16;", 6);
        for (int s = 0; s < 6; s++) {
            due("in", x.sign(s, 0), s + 1);
            due("out", x.sign(s, 1), s + 11);
        }
    }

    /** Which clerk sees the guest who goes or comes by the front at each clock of a day. */
    private static void seesAt(String shift, int clerk, int from, int hours) {
        IsHeIn x = house(1, "go 1000;come 1000;front 1000;carry 1000;");
        good(x, 2, shift, 1);
        x.hours(24);
        for (int clock = 0; clock < 24; clock++) {
            boolean sees = (clock - from + 24) % 24 < hours;
            due(shift + " at " + clock, x.book(clock, 4), sees ? clerk : NONE);
        }
    }

    private static void boundsOfShifts() {
        about("2: CLERK 0 .. 3, CLOCK 0 .. 23, N 1 .. 24, over midnight, too, DOOR 0, 1");
        seesAt("clerk 0 from 0 for 1 at 0;", 0, 0, 1);
        seesAt("clerk 3 from 23 for 1 at 0;", 3, 23, 1);
        seesAt("clerk 3 from 23 for 2 at 0;", 3, 23, 2);
        seesAt("clerk 1 from 23 for 23 at 0;", 1, 23, 23);
        seesAt("clerk 2 from 1 for 23 at 0;", 2, 1, 23);
        seesAt("clerk 2 from 12 for 12 at 0;", 2, 12, 12);
        seesAt("clerk 2 from 12 for 13 at 0;", 2, 12, 13);
        seesAt("clerk 0 from 0 for 24 at 0;", 0, 0, 24);
        seesAt("clerk 0 from 23 for 24 at 0;", 0, 23, 24);
        seesAt("clerk 0 from 0 for 24 at 1;", 0, 0, 0);
        for (int n : new int[] {4, 5, 9999}) {
            bad(2, "clerk " + n + " from 0 for 1 at 0;", 2, 6);
        }
        for (int n : new int[] {24, 25, 9999}) {
            bad(2, "clerk 0 from " + n + " for 1 at 0;", 2, 13);
        }
        for (int n : new int[] {0, 25, 9999}) {
            bad(2, "clerk 0 from 0 for " + n + " at 0;", 2, 19);
        }
        for (int n : new int[] {2, 3, 9999}) {
            bad(2, "clerk 0 from 0 for 1 at " + n + ";", 2, 24);
        }
    }

    private static void parts() {
        about("2: 2 (at the NUMBER) a part by 0");
        bad(0, "go 1/0;", 2, 5);
        bad(0, "go 1/00;", 2, 5);
        bad(0, "go 1/ \n0000;", 2, 7);
        bad(0, "go 1/1/0;", 2, 7);
        bad(0, "go 1*0/0;", 2, 7);
        bad(0, "go 1 when 1=age/0;", 2, 16);
        bad(0, "go 1/0", 2, 5);
        bad(0, "go 0/0(", 2, 5);
        IsHeIn x = house(1);
        good(x, 0, "go 7/1*0;", 1);
        due("7/1*0", x.of(0, 6), 0);
        good(x, 0, "go 9999*999/9999/0001;", 1);
        due("by 9999", x.of(0, 6), 999);
        good(x, 0, "go 0/9;come 8/9;carry 9/9;", 3);
        due("0/9", x.of(0, 6), 0);
        due("8/9", x.of(0, 7), 0);
        due("9/9", x.of(0, 8), 1);
    }

    // ---- the law's conditions ----

    private static void openOnes() {
        about("2: 3 (at it) the 9th ( or not that is open");
        IsHeIn x = house(1);
        for (int nots = 0; nots <= 9; nots++) {
            for (int i = 0; i + nots <= 9; i++) {
                String opening = times(i, "(") + times(nots, "not ");
                String closing = times(i, ")");
                if (i + nots == 9) {
                    int last = nots == 0 ? 8 : i + 4 * (nots - 1);
                    bad(0, "go 7 when " + opening + "1=1" + closing + ";", 3, 10 + last);
                } else {
                    good(x, 0, "go 7 when " + opening + "1=1" + closing + ";go 8;", 2);
                    due(opening, x.of(0, 6), nots % 2 == 0 ? 7 : 8);
                }
            }
        }
        bad(0, "go 7 when " + times(9, "("), 3, 18);
        bad(0, "go 7 when " + times(8, "("), 1, 18);
        bad(0, "go 7 when " + times(8, "(") + "1=1" + times(7, ")") + ";", 1, 28);
        bad(0, "go 7 when " + times(8, "(") + "1=1" + times(9, ")") + ";", 1, 29);
        bad(0, "go 7 when " + times(8, "(") + "1=1 or (1=1" + times(9, ")") + ";", 3, 25);
        bad(0, "go 7 when " + times(8, "(") + "1=1) and (1=1 or not 1=1" + times(8, ")") + ";", 3, 35);
    }

    private static void openOnesClose() {
        about("2: 3 (at it) the 9th ( or not that is open (and not one that is closed)");
        IsHeIn x = house(1);
        good(x, 0, "go 7 when " + times(10, "(1=1) and ") + "not 1=2;go 8;", 2);
        due("( closed", x.of(0, 6), 7);
        good(x, 0, "go 7 when " + times(12, "not 1=2 and ") + "(1=1);go 8;", 2);
        due("not closed by the C behind it", x.of(0, 6), 7);
        good(x, 0, "go 7 when " + times(8, "not ") + "1=1 and " + times(8, "not ") + "1=1 or "
            + times(8, "(") + "1=1" + times(8, ")") + ";go 8;", 2);
        due("eight and eight and eight", x.of(0, 6), 7);
        good(x, 0, "go 7 when " + times(7, "(") + "not 1=2 and (1=1) and not 1=2 or (1=2" + times(8, ")") + ";go 8;", 2);
        due("the eighth again and again", x.of(0, 6), 7);
        good(x, 0, "go 7 when " + times(4, "not(") + "1=1 and 2=2" + times(4, ")") + " and " + times(8, "(")
            + "1=1" + times(8, ")") + ";go 8;", 2);
        due("not with its ( is two", x.of(0, 6), 7);
        bad(0, "go 7 when " + times(4, "not(") + "not 1=2" + times(4, ")") + ";", 3, 26);
        bad(0, "go 7 when " + times(8, "(") + "1=2" + times(8, ")") + ";go 7 when " + times(9, "(") + ";", 3, 48);
    }

    private static void openOnesAfterAFault() {
        about("2: 3 (at it) the 9th ( or not that is open (in that text)");
        IsHeIn x = house(1);
        String eight = "go 7 when " + times(8, "(") + "1=2 or 1=1" + times(8, ")") + ";go 8;";
        String nots = "go 7 when " + times(8, "not ") + "1=1 and 2=2;go 8;";
        for (String bad : new String[] {"go 7 when " + times(8, "(") + "1=1 or 1=1 and", "go 7 when " + times(8, "not "),
            "go 7 when " + times(9, "("), "go 7 when (not (1=1 or not 1/0=1;"}) {
            due(bad, tell(x, 0, bad), NONE);
            good(x, 0, eight, 2);
            due("so", x.of(0, 6), 7);
            due(bad, tell(x, 0, bad), NONE);
            good(x, 0, nots, 2);
            due("so", x.of(0, 6), 7);
        }
    }

    private static void deepestAndLongest() {
        about("8: 400 bytes, and 2: eight that are open, told at once");
        IsHeIn x = house(1);
        String dense = "go1" + times(198, "+1") + ";";
        due("bytes", dense.length(), 400);
        good(x, 0, dense, 1);
        due("199 ones", x.of(0, 6), 199);
        String sum = "go 1" + times(197, "+1") + " ;";
        due("bytes", sum.length(), 400);
        good(x, 0, sum, 1);
        due("198 ones", x.of(0, 6), 198);
        String product = "go 1" + times(196, "*1") + "+6;";
        good(x, 0, product, 1);
        due("one and six", x.of(0, 6), 7);
        String level = "1=2 or 1=1 and(";
        good(x, 0, "go 7 when " + times(8, level) + "1=2 or 3*4+5<6+3*4 and 2=2" + times(8, ")") + ";go 8;", 2);
        due("so", x.of(0, 6), 7);
        good(x, 0, "go 7 when " + times(8, level) + "1=2 or 3*4+6<6+3*4 and 2=2" + times(8, ")") + ";go 8;", 2);
        due("not so", x.of(0, 6), 8);
        good(x, 0, "go 7 when 0=0" + times(48, " and 1=1") + ";", 1);
        due("a long chain of and", x.of(0, 6), 7);
        good(x, 0, "go 7 when 0=1" + times(50, " or 1=2") + " or 2=2;go 8;", 2);
        due("a long chain of or", x.of(0, 6), 7);
        good(x, 0, "go 7 when 0=1" + times(52, " or 1=2") + ";go 8;", 2);
        due("and none of it so", x.of(0, 6), 8);
    }

    private static void whatCannotStandThere() {
        about("2: KEYWORDS (those told here for that text) or none; 1 what can't stand there");
        String[] words = {"go", "come", "carry", "stray", "front", "prior", "when", "or", "and", "not", "sign", "in",
            "out", "clerk", "from", "for", "at", "guest", "floor", "age", "clock", "day", "pear", "rain", "board",
            "since", "hour", "x", "GO", "Go"};
        for (int i = 0; i < words.length; i++) {
            if (i >= 6) {
                bad(0, words[i] + " 1;", 1, 0);
            }
            if (i < 17 || i > 25) {
                bad(0, "go " + words[i] + ";", 1, 3);
                bad(0, "go 1 when 1=" + words[i] + ";", 1, 12);
                bad(0, "go 8*" + words[i] + ";", 1, 5);
            } else {
                good(house(1), 0, "go " + words[i] + " when 1=" + words[i] + ";", 1);
            }
            bad(0, "go 8/" + words[i] + ";", 1, 5);
            if (!words[i].equals("when")) {
                bad(0, "go 1 " + words[i], 1, 5);
            }
            if (!words[i].equals("sign")) {
                bad(1, words[i] + " in 1 out 1;", 1, 0);
            }
            bad(1, "sign in " + words[i] + " out 1;", 1, 8);
            bad(1, SIGN.substring(0, 15) + words[i], 1, 15);
            if (!words[i].equals("clerk")) {
                bad(2, words[i] + " 0 from 0 for 1 at 0;", 1, 0);
            }
            bad(2, "clerk 0 from 0 for 1 at " + words[i] + ";", 1, 24);
            bad(2, SHIFT.substring(0, 25) + words[i], 1, 25);
        }
        bad(0, "go 1 when (1)=1;", 1, 12);
        bad(0, "go (1);", 1, 3);
        bad(0, "go 1 when 1=1 and;", 1, 17);
        bad(0, "go 1 when 1=1 or;", 1, 16);
        bad(0, "go 1 when not;", 1, 13);
        bad(0, "go 1 when ();", 1, 11);
        bad(0, "go -1;", 1, 3);
        bad(0, ";", 1, 0);
        bad(0, "go 1;;", 1, 5);
    }

    private static void faultsByPlace() {
        about("2: FAULTS, the first by its place");
        bad(0, "go 1/0;" + times(16, "go 1;"), 2, 5);
        bad(0, times(16, "go 1;") + "go 1/0;", 3, 80);
        bad(0, times(15, "go 1;") + "go 1/0;go 1;", 2, 80);
        bad(0, "go 1 when " + times(9, "(") + "1/0=1;", 3, 18);
        bad(0, "go 1 when 1/0=" + times(9, "("), 2, 12);
        bad(1, "sign in 0 out 0;x", 2, 8);
        bad(1, "sign in 1 out x;sign in 0", 1, 14);
        bad(2, "clerk 9 from 99 for 99 at 9;", 2, 6);
        bad(2, "clerk 0 from 99 for 99 at 9;", 2, 13);
        bad(2, "clerk 0 from 0 for 99 at 9;", 2, 19);
        bad(2, "clerk 0 from 0 at 9;", 1, 15);
    }

    private static void faultIsOfTheLatest() {
        about("11: Of the latest text(): what 0 the FAULT (0 without one), 1 its place (NONE)");
        IsHeIn x = new IsHeIn();
        due("new: fault(0)", x.fault(0), 0);
        due("new: fault(1)", x.fault(1), NONE);
        for (int what : new int[] {-1, 2, MIN, MAX}) {
            due("fault(" + what + ")", x.fault(what), NONE);
        }
        tell(x, 1, "sign in 1 out 1000;");
        write(x, "go 1;");
        due("before the next text(): fault(0)", x.fault(0), 2);
        due("before the next text(): fault(1)", x.fault(1), 14);
        for (int what : new int[] {-1, 2, MIN, MAX}) {
            due("fault(" + what + ")", x.fault(what), NONE);
        }
        due("text(0)", x.text(0), 1);
        due("then fault(0)", x.fault(0), 0);
        due("then fault(1)", x.fault(1), NONE);
        tell(x, 0, "?");
        due("fault(0)", x.fault(0), 1);
        due("at the first byte: fault(1)", x.fault(1), 0);
    }

    private static void textStays() {
        about("10: a FAULT (the TEXT stays as it was; the TAPE is empty in each case)");
        IsHeIn x = house(2);
        good(x, 0, "go 5;come 6;", 2);
        good(x, 1, "sign in 10 out 20;sign in 30 out 40;", 2);
        good(x, 2, "clerk 3 from 0 for 24 at 0;clerk 2 from 0 for 24 at 1;", 2);
        yes("looks", x.looks(1, 1, 1));
        String[] bad = {"go 7;come 8;carry 9;stray", "sign in 1 out 1;sign in 2 out 2;sign in 3 out 0;",
            "clerk 1 from 0 for 24 at 0;clerk 1 from 0 for 24 at 1;clerk"};
        for (int k = 0; k < 3; k++) {
            due("a fault", tell(x, k, bad[k]), NONE);
            no("the tape is empty", x.end(1));
            due("lines", x.look(8 + k), 2);
        }
        due("go", x.of(0, 6), 5);
        due("come", x.of(0, 7), 6);
        due("carry", x.of(0, 8), 300);
        due("in", x.sign(0, 0), 10);
        due("out", x.sign(1, 1), 40);
        due("seen stays", x.sign(1, 3), 1);
        tell(x, 0, "go 1000;front 1000 when guest=0;front 0;");
        x.hours(1);
        due("clerk at door 0", x.book(0, 4), 3);
        due("clerk at door 1", x.book(1, 4), 2);
    }

    private static void toldAnew() {
        about("2: Told anew nothing is SEEN");
        for (String anew : new String[] {"", SIGN, times(6, SIGN)}) {
            IsHeIn x = house(12);
            good(x, 1, times(6, SIGN), 6);
            for (int g = 0; g < 12; g++) {
                for (int s = 0; s < 6; s++) {
                    yes("looks", x.looks(g, s, (g + s) % 2));
                }
            }
            tell(x, 1, anew);
            tell(x, 1, times(6, SIGN));
            for (int g = 0; g < 12; g++) {
                for (int s = 0; s < 6; s++) {
                    due("sign(" + s + ", " + (2 + g) + ")", x.sign(s, 2 + g), NONE);
                }
                due("SURE", x.of(g, 5), 900000);
            }
        }
    }

    // ---- what the law tells ----

    private static void so(String when, boolean is) {
        IsHeIn x = house(1, "go 7 when " + when + ";go 8;");
        due(when, x.of(0, 6), is ? 7 : 8);
    }

    private static void wrapping() {
        about("2: Ints, which wrap; / goes towards 0");
        String most = "9999*9999*21+4790*9999+8416";
        String least = "0-9999*9999*21-4790*9999-8416-1";
        so(most + ">0", true);
        so(most + "+1<0", true);
        so(most + "+1=" + least, true);
        so(least + "<0", true);
        so(least + "-1>0", true);
        so(least + "-1=" + most, true);
        so(least + "<" + most, true);
        so(least + ">" + most, false);
        so("2048*1024*1024=" + least, true);
        so("2048*1024*1024/1=" + least, true);
        so("2048*1024*1024/2048+1024*1024=0", true);
        so("4096*1024*1024=0", true);
        so("9999*9999*22=9999*9999*22", true);
        so("9999*9999*22/1000+2095*1000+407=0", true);
        so("9999*9999*22/9999<0", true);
        so("0-7/2=0-3", true);
        so("1-8/9=1", true);
    }

    private static void heldTellings() {
        about("2: held to 0 .. 1000");
        String most = "9999*9999*21+4790*9999+8416";
        String[] sums = {"0-1", "0", "1", "999", "1000", "1001", "9999", most, most + "+1", "2048*1024*1024"};
        int[] held = {0, 0, 1, 999, 1000, 1000, 1000, 1000, 0, 0};
        String[] words = {"go", "come", "carry", "stray", "front", "prior"};
        for (int w = 0; w < 6; w++) {
            IsHeIn x = house(1);
            for (int i = 0; i < sums.length; i++) {
                good(x, 0, words[w] + " " + sums[i] + ";", 1);
                due(words[w] + " " + sums[i], x.of(0, 6 + w), held[i]);
            }
        }
    }

    private static void untold() {
        about("2: (none: go 100, come 200, carry 300, stray 0, front 500, prior: 900, if his KEY is none on the board, "
            + "else 100)");
        int[] due = {100, 200, 300, 0, 500, 900};
        for (String law : new String[] {"", "go 1 when 1=2;come 1 when 1=2;carry 1 when 1=2;stray 1 when 1=2;"
            + "front 1 when 1=2;prior 1 when 1=2;"}) {
            IsHeIn x = hung(NONE, 1, 3, NONE);
            tell(x, 0, law);
            for (int w = 0; w < 5; w++) {
                due("word " + w, x.of(0, 6 + w), due[w]);
            }
            int[] priors = {900, 100, 100, 900};
            for (int g = 0; g < 4; g++) {
                due("prior of " + g, x.of(g, 11), priors[g]);
            }
        }
        due("prior of one who is in", house(1).of(0, 11), 900);
    }

    private static void whichLine() {
        about("2: E of the first line with that word whose B is so, or that has none");
        IsHeIn x = house(1);
        String never = "go 1 when 1=2;";
        good(x, 0, times(15, never) + "go 77;", 16);
        due("the sixteenth", x.of(0, 6), 77);
        good(x, 0, "go 77;" + times(15, "go 1;"), 16);
        due("the first", x.of(0, 6), 77);
        good(x, 0, "go 77;" + times(15, "go 1 when 1=1;"), 16);
        due("the first, without when", x.of(0, 6), 77);
        good(x, 0, "come 1;carry 2;go 77 when age=0;go 3;", 4);
        due("the first with that word", x.of(0, 6), 77);
        good(x, 0, times(16, never), 16);
        due("none is so", x.of(0, 6), 100);
    }

    private static void whatIsKnown() {
        about("2: guest: his number; floor, age; clock, day; pear: PEAR; rain: RAIN; board; since");
        IsHeIn x = house(11);
        x.guest(3, 99);
        String[] names = {"guest", "floor", "age", "pear", "rain", "board", "since", "clock", "day"};
        int[][] due = {{0, 0, 0, 0, 0, 0, 0, 0, 0}, {11, 3, 99, 0, 0, 0, 0, 0, 0}};
        for (int i = 0; i < names.length; i++) {
            tell(x, 0, "go " + names[i] + ";");
            due(names[i] + " of guest 0", x.of(0, 6), due[0][i]);
            due(names[i] + " of guest 11", x.of(11, 6), due[1][i]);
        }
        yes("pear", x.set(0, 0, 20));
        yes("rain", x.set(1, 0, 9));
        tell(x, 0, "go 1000 when guest=0;go 0;come 0;carry 0;");
        x.hours(23);
        tell(x, 0, "go pear;come rain;carry board;stray clock;front day;prior since;");
        int[] before = {20, 9, 1, 23, 0, 22};
        for (int w = 0; w < 6; w++) {
            due("before midnight", x.of(0, 6 + w), before[w]);
        }
        due("who is in has his key", x.of(11, 8), 0);
        due("since", x.of(11, 11), 23);
        tell(x, 0, "go 0;come 0;");
        x.hours(1);
        tell(x, 0, "stray clock;front day;prior since;");
        int[] after = {0, 1, 23};
        for (int w = 0; w < 3; w++) {
            due("at midnight", x.of(0, 9 + w), after[w]);
        }
    }
}
