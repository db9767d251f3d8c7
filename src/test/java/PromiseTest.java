/** Each promise of the document by itself: ordinary inputs, the edges that it names, and wrong inputs. */
public final class PromiseTest extends Checks {
    public static void main(String[] args) {
        one();
        two();
        three();
        four();
        five();
        six();
        seven();
        hourByDraws();
        hourByClock();
        strayKeys();
        askedAtHisTurn();
        bookIsFull();
        eightAndNine();
        tenAndEleven();
        lawFaults();
        signAndShiftFaults();
        lawTells();
        lawReckons();
        lawChooses();
        twelve();
        thirteen();
        fourteen();
        fifteen();
        sixteen();
        seventeen();
        eighteen();
        nineteen();
        twenty();
        twentyOne();
        twentyTwo();
        twentyThree();
        twentyFour();
        twentyFive();
        twentySix();
        twentySevenAndEight();
        twentyNine();
        thirty();
        thirtyOneAndNine();
        thirtyTwoAndThree();
        thirtyFour();
        thirtyFive();
        thirtySix();
        thirtySevenAndEight();
        forty();
        fortyOne();
        fortyTwo();
        fortyThree();
        fortyFour();
        fortyFive();
        fortySix();
        fortySeven();
        finish();
    }

    // ---- what is told ----

    private static void one() {
        IsHeIn x = new IsHeIn();
        int[] looks = {0, 0, 0, 0, 0, 0, 0, 0, 0, 0, 0, 0, 0, 0};
        for (int what = 0; what < looks.length; what++) {
            due("new: look(" + what + ")", x.look(what), looks[what]);
        }
        due("NONE", IsHeIn.NONE, -1);
        due("new: fault(0)", x.fault(0), 0);
        due("new: fault(1)", x.fault(1), NONE);
        no("new: undo()", x.undo());
        no("new: image(false)", x.image(false));
        no("new: end(1)", x.end(1));
        due("new: of(0, 0)", x.of(0, 0), NO_SUCH);
    }

    private static void two() {
        IsHeIn x = new IsHeIn();
        due("state", x.state(77), 0);
        due("state", x.state(Integer.MIN_VALUE), 77);
        due("look(7)", x.look(7), Integer.MIN_VALUE);
        due("state", x.state(-1), Integer.MIN_VALUE);
        due("look(7)", x.look(7), -1);
    }

    private static void three() {
        IsHeIn x = new IsHeIn();
        due("guest: floor 4", x.guest(4, 0), NONE);
        due("guest: floor -1", x.guest(-1, 0), NONE);
        due("guest: age -1", x.guest(0, -1), NONE);
        due("guest: age 100", x.guest(0, 100), NONE);
        due("no guest came", x.look(0), 0);
        for (int g = 0; g < 12; g++) {
            due("guest", x.guest(g % 4, g == 0 ? 99 : g == 1 ? 0 : 50), g);
        }
        due("the thirteenth", x.guest(0, 0), NONE);
        due("look(0)", x.look(0), 12);
        due("age 99", x.of(0, 1), 99);
        due("age 0", x.of(1, 1), 0);
        due("floor 3", x.of(11, 0), 3);
    }

    private static void four() {
        IsHeIn x = house(2);
        yes("pear 20", x.set(0, -7, 20));
        no("pear 21", x.set(0, 0, 21));
        no("pear -1", x.set(0, 0, -1));
        due("look(4)", x.look(4), 20);
        yes("pear 0", x.set(0, 0, 0));
        yes("rain 9", x.set(1, 99, 9));
        no("rain 10", x.set(1, 0, 10));
        no("rain -1", x.set(1, 0, -1));
        due("look(5)", x.look(5), 9);
        due("look(4)", x.look(4), 0);
        yes("age 99", x.set(2, 1, 99));
        no("age 100", x.set(2, 1, 100));
        no("age -1", x.set(2, 1, -1));
        no("age of none", x.set(2, 2, 5));
        no("age of -1", x.set(2, -1, 5));
        due("of(1, 1)", x.of(1, 1), 99);
        due("of(0, 1)", x.of(0, 1), 0);
        no("what 3", x.set(3, 0, 5));
        no("what -1", x.set(-1, 0, 5));
        yes("the same again", x.set(0, 0, 0));
    }

    private static void five() {
        IsHeIn x = house(3, "go 1000;come 0;carry 1000 when guest=0;carry 0;stray 0;");
        no("hang of one who is in", x.hang(0, 0));
        x.hours(1);
        due("keys on 1 and 2", x.look(3), 6);
        no("hook with a key", x.hang(0, 1));
        no("no such hook", x.hang(0, 3));
        no("hook -1", x.hang(0, -1));
        no("no such guest", x.hang(3, 0));
        no("guest -1", x.hang(-1, 0));
        yes("from his pocket", x.hang(0, 0));
        due("of(0, 3)", x.of(0, 3), 0);
        no("where it hangs already", x.hang(0, 0));
        due("lines", x.look(6), 4);
        due("hour", x.book(3, 0), 1);
        due("what", x.book(3, 1), 2);
        due("guest", x.book(3, 2), 0);
        due("hook", x.book(3, 3), 0);
        due("clerk", x.book(3, 4), NONE);
        due("since", x.of(0, 4), 0);
        IsHeIn y = house(3, "go 1000 when guest<2;go 0;come 0;carry 0;stray 0;");
        y.hours(1);
        yes("from hook to hook", y.hang(0, 2));
        due("hook(0)", y.hook(0), NONE);
        due("hook(2)", y.hook(2), 0);
        no("one who is in", y.hang(2, 0));
    }

    private static void six() {
        IsHeIn x = house(2);
        good(x, 1, "sign in 500 out 400;sign in 1 out 999;", 2);
        no("not looked as it is", x.looks(0, 0, NONE));
        yes("seen", x.looks(0, 0, 1));
        no("seen again", x.looks(0, 0, 1));
        yes("not seen", x.looks(0, 0, 0));
        due("sign(0, 2)", x.sign(0, 2), 0);
        due("sign(0, 3)", x.sign(0, 3), NONE);
        yes("not looked", x.looks(0, 0, NONE));
        due("sign(0, 2)", x.sign(0, 2), NONE);
        no("seen 2", x.looks(0, 0, 2));
        no("seen -2", x.looks(0, 0, -2));
        no("no such sign", x.looks(0, 2, 1));
        no("sign -1", x.looks(0, -1, 1));
        no("no such guest", x.looks(2, 0, 1));
        no("guest -1", x.looks(-1, 0, 1));
        yes("seen", x.looks(1, 1, 1));
        good(x, 1, "sign in 500 out 400;sign in 1 out 999;", 2);
        due("told anew nothing is seen", x.sign(1, 3), NONE);
        yes("seen", x.looks(1, 1, 1));
        due("a fault", tell(x, 1, "sign in 0 out 1;"), NONE);
        due("by a fault nothing is unseen", x.sign(1, 3), 1);
    }

    private static void seven() {
        IsHeIn x = house(2, "go 0;");
        due("hours(0)", x.hours(0), NONE);
        due("hours(61)", x.hours(61), NONE);
        due("hours(-1)", x.hours(-1), NONE);
        due("look(1)", x.look(1), 0);
        for (int i = 0; i < 166; i++) {
            due("hours(60)", x.hours(60), 0);
        }
        due("look(1)", x.look(1), 9960);
        due("since, 999 at most", x.of(0, 4), 999);
        due("beyond 9999", x.hours(40), NONE);
        due("nothing is done", x.look(1), 9960);
        due("up to 9999", x.hours(39), 0);
        due("look(1)", x.look(1), 9999);
        due("beyond 9999", x.hours(1), NONE);
        due("draws went on", x.look(12), 6);
        IsHeIn y = new IsHeIn();
        due("hours without guests", y.hours(60), 0);
        due("no draws without guests", y.look(7), 0);
        IsHeIn z = house(3, "go 1000;come 1000;");
        due("all go, come, go", z.hours(3), 9);
        due("all are out", z.look(2), 7);
    }

    private static int drawn = 0;

    private static int draw() {
        drawn = drawn * 1664525 + 1013904223;
        return (drawn >>> 8) % 1000;
    }

    /** The draws in their order: go, front, carry, stray; come, front. */
    private static void hourByDraws() {
        for (int seed = 0; seed < 60; seed++) {
            IsHeIn x = house(1, "go 600;come 500;carry 400;stray 700;front 300;");
            drawn = seed * 71234567 - 5;
            x.state(drawn);
            boolean out = false;
            int key = NONE;
            int lines = 0;
            for (int hour = 0; hour < 6; hour++) {
                int moved = 0;
                if (!out && draw() < 600) {
                    int door = draw() < 300 ? 0 : 1;
                    boolean carries = draw() < 400;
                    if (!carries) {
                        draw();
                    }
                    key = carries ? NONE : 0;
                    out = true;
                    moved = 1;
                    due("hours(1)", x.hours(1), 1);
                    due("door of going", x.book(lines, 3), door);
                    due("what", x.book(lines, 1), 0);
                    lines++;
                } else if (out && draw() < 500) {
                    int door = draw() < 300 ? 0 : 1;
                    key = NONE;
                    out = false;
                    moved = 1;
                    due("hours(1)", x.hours(1), 1);
                    due("door of coming", x.book(lines, 3), door);
                    due("what", x.book(lines, 1), 1);
                    lines++;
                } else {
                    due("hours(1)", x.hours(1), 0);
                }
                due("out", x.of(0, 2), out ? 1 : 0);
                due("key", x.of(0, 3), key);
                due("state", x.look(7), drawn);
                due("since", x.of(0, 4) == 0 ? 1 : 0, moved == 1 ? 1 : 0);
                due("lines", x.look(6), lines);
            }
        }
    }

    private static void hourByClock() {
        IsHeIn x = house(2, "go 1000 when clock=23 and day=0;go 0;come 1000 when clock=0 and day=1;come 0;"
            + "front 1000 when guest=0;front 0;carry 0;");
        good(x, 2, "clerk 1 from 22 for 2 at 1;clerk 0 from 23 for 1 at 0;clerk 3 from 23 for 24 at 0;"
            + "clerk 2 from 20 for 5 at 1;", 4);
        due("until 23", x.hours(23), 0);
        due("since", x.of(1, 4), 23);
        due("at 23", x.hours(1), 2);
        due("since", x.of(1, 4), 0);
        due("at 24", x.hours(1), 2);
        int[][] lines = {{23, 0, 0, 0, 0}, {23, 0, 1, 1, 1}, {24, 1, 0, 0, 3}, {24, 1, 1, 1, 2}};
        for (int i = 0; i < 4; i++) {
            for (int what = 0; what < 5; what++) {
                due("book(" + i + ", " + what + ")", x.book(i, what), lines[i][what]);
            }
        }
    }

    private static void strayKeys() {
        IsHeIn x = house(3, "go 1000 when clock=guest;go 0;come 0;carry 0;stray 1000;");
        x.hours(1);
        due("0 strays to 1", x.hook(1), 0);
        x.hours(1);
        due("1 strays to 2", x.hook(2), 1);
        x.hours(1);
        due("2, the last, strays to 0", x.hook(0), 2);
        IsHeIn y = house(3, "go 1000 when clock=2-guest;go 0;come 0;carry 0;stray 1000 when guest=1;stray 0;");
        y.hours(1);
        due("2 hangs on his own", y.hook(2), 2);
        y.hours(1);
        due("1 finds 2 taken, and takes his own", y.hook(1), 1);
        IsHeIn z = house(2, "go 1000 when clock=guest;go 0;come 0;carry 0;stray 1000 when guest=0;stray 0;");
        z.hours(2);
        due("0 strayed to 1", z.hook(1), 0);
        due("1 finds his own taken, and has his key", z.of(1, 3), NONE);
        due("1 is out", z.of(1, 2), 1);
        IsHeIn w = house(2, "go 1000 when clock=guest;go 0;come 0;carry 0;stray 1000;");
        w.hours(1);
        yes("by hand to his own", w.hang(0, 0));
        yes("and back", w.hang(0, 1));
        w.hours(1);
        due("1 strays to 0", w.hook(0), 1);
        IsHeIn u = house(1, "go 1000;carry 0;stray 1000;");
        u.hours(1);
        due("alone he is his own next", u.hook(0), 0);
        IsHeIn v = house(2, "go 1000 when clock<2;go 0;come 1000;carry 0;stray 1000 when guest=0;stray 0;");
        v.hours(1);
        due("0 on 1", v.hook(1), 0);
        v.hours(1);
        due("who came has his key", v.look(3), 0);
        due("who came is in", v.look(2), 0);
    }

    private static void askedAtHisTurn() {
        IsHeIn x = house(1, "go 1000 when since=2;go 0;come 1000 when since=3;come 0;carry 0;"
            + "front 1000 when board=1 and since=3;front 1000 when board=0 and since=2;front 0;");
        due("0", x.hours(2), 0);
        due("goes", x.hours(1), 1);
        due("by the front, as since was", x.book(0, 3), 0);
        due("0", x.hours(3), 0);
        due("since", x.of(0, 4), 3);
        due("comes", x.hours(1), 1);
        due("by the front, as his key was on the board", x.book(1, 3), 0);
    }

    private static void bookIsFull() {
        IsHeIn x = house(12, "go 1000;come 1000;carry 0;");
        x.hours(12);
        due("lines", x.look(6), 144);
        due("they go on", x.hours(1), 12);
        due("150 lines", x.look(6), 150);
        due("the last one is of guest 5", x.book(149, 2), 5);
        due("no more", x.book(150, 2), NO_SUCH);
        due("all out", x.look(2), 4095);
        yes("back", x.undo());
        due("lines", x.look(6), 144);
        x.hours(1);
        tell(x, 0, "go 1000 when guest=11;go 0;come 1000 when guest=11;come 0;carry 0;");
        x.hours(1);
        due("11 is in", x.of(11, 2), 0);
        yes("hang though the book is full", x.hang(0, 11));
        due("hook(11)", x.hook(11), 0);
        due("150 lines", x.look(6), 150);
    }

    // ---- texts ----

    private static void eightAndNine() {
        IsHeIn x = new IsHeIn();
        int a = 'g' << 24 | 'o' << 16 | ' ' << 8 | '7';
        int b = ';' << 24 | ' ' << 16 | ' ' << 8 | ' ';
        int blank = ' ' << 24 | ' ' << 16 | ' ' << 8 | ' ';
        due("feed", x.feed(a, b, blank, blank, a), 20);
        yes("end(19)", x.end(19));
        no("end(20)", x.end(20));
        no("end(-1)", x.end(-1));
        yes("end(19) again", x.end(19));
        yes("end(5)", x.end(5));
        due("feed behind it", x.feed(a, b, blank, blank, blank), 25);
        due("two lines", x.text(0), 2);
        no("the tape is empty", x.end(1));
        yes("end(0)", x.end(0));
        for (int i = 1; i <= 20; i++) {
            due("feed", x.feed(blank, blank, blank, blank, blank), 20 * i);
        }
        due("more than 400", x.feed(a, a, a, a, a), NONE);
        yes("end(400)", x.end(400));
        yes("end(381)", x.end(381));
        due("more than 400", x.feed(a, a, a, a, a), NONE);
        yes("end(380)", x.end(380));
        due("400", x.feed(blank, blank, blank, blank, blank), 400);
        due("blanks alone", x.text(0), 0);
        due("feed", x.feed(-1, 0, 0, 0, 0), 20);
        due("byte 255", x.text(0), NONE);
        due("fault(0)", x.fault(0), 1);
        due("fault(1)", x.fault(1), 0);
    }

    private static void tenAndEleven() {
        IsHeIn x = house(1);
        good(x, 0, "", 0);
        good(x, 0, "go 7;", 1);
        due("go", x.of(0, 6), 7);
        due("a fault", tell(x, 0, "go 8;go"), NONE);
        due("fault(0)", x.fault(0), 1);
        due("fault(1)", x.fault(1), 7);
        due("fault(2)", x.fault(2), NONE);
        due("fault(-1)", x.fault(-1), NONE);
        due("the law stays", x.of(0, 6), 7);
        due("one line", x.look(8), 1);
        due("no such text", tell(x, 3, "go 8;"), NONE);
        due("fault(0)", x.fault(0), 0);
        due("fault(1)", x.fault(1), NONE);
        no("the tape is empty", x.end(1));
        due("no such text", tell(x, -1, "go 8;"), NONE);
        no("the tape is empty", x.end(1));
        due("the law stays", x.of(0, 6), 7);
        good(x, 1, "sign in 1 out 999;", 1);
        due("a fault", tell(x, 1, "sign in 1 out 9;sign"), NONE);
        due("the signs stay", x.sign(0, 1), 999);
        due("look(9)", x.look(9), 1);
        good(x, 2, "clerk 3 from 23 for 24 at 1;clerk 0 from 0 for 1 at 0;", 2);
        due("a fault", tell(x, 2, "clerk 3"), NONE);
        due("look(10)", x.look(10), 2);
        good(x, 2, "", 0);
        due("look(10)", x.look(10), 0);
        good(x, 1, " \n ", 0);
        due("look(9)", x.look(9), 0);
        good(x, 0, times(16, "go 1;"), 16);
        good(x, 1, times(6, "sign in 1 out 1;"), 6);
        good(x, 2, times(12, "clerk 1 from 1 for 1 at 1;"), 12);
        for (int i = 1; i <= 10; i++) {
            good(x, 0, "go " + i + times(90, "+1") + " when 1=1" + times(9, " or 1=1") + ";", 1);
            due("each law is read from its own beginning", x.of(0, 6), 90 + i);
        }
        good(x, 0, "go1when 1=1and 2=2or not(3=3);come\n2\n;", 2);
    }

    private static void lawFaults() {
        bad(0, "go", 1, 2);
        bad(0, "go  ", 1, 4);
        bad(0, "go 1", 1, 4);
        bad(0, "go 1 ", 1, 5);
        bad(0, ";", 1, 0);
        bad(0, " \ngone 1;", 1, 2);
        bad(0, "Go 1;", 1, 0);
        for (String letter : new String[] {"A", "X", "Z", "a", "x", "z"}) {
            bad(0, "go" + letter + " 1;", 1, 0);
        }
        for (String sign : new String[] {"@", "[", "`", "{", "_", ":", ".", "\u00e9"}) {
            bad(0, "go" + sign + " 1;", 1, 2);
        }
        bad(0, "go when 1=1;", 1, 3);
        bad(0, "go 1 when when=1;", 1, 10);
        bad(0, "guest 1;", 1, 0);
        bad(0, "go\t1;", 1, 2);
        bad(0, "go 1.", 1, 4);
        bad(0, "go -1;", 1, 3);
        bad(0, "go (1);", 1, 3);
        bad(0, "go 10000;", 1, 3);
        bad(0, "go 00000;", 1, 3);
        bad(0, "go 1+;", 1, 5);
        bad(0, "go 1*/2;", 1, 5);
        bad(0, "go 1 2;", 1, 5);
        bad(0, "go 8/age;", 1, 5);
        bad(0, "go 8/(2);", 1, 5);
        bad(0, "go 8/0;", 2, 5);
        bad(0, "go 8/ 0000;", 2, 6);
        bad(0, "go 8/0", 2, 5);
        bad(0, "go 1 when;", 1, 9);
        bad(0, "go 1 when 1;", 1, 11);
        bad(0, "go 1 when 1=;", 1, 12);
        bad(0, "go 1 when 1=1=1;", 1, 13);
        bad(0, "go 1 when 1=1 and;", 1, 17);
        bad(0, "go 1 when 1=1 or or;", 1, 17);
        bad(0, "go 1 when (1=1;", 1, 14);
        bad(0, "go 1 when (1=1 when;", 1, 15);
        bad(0, "go 1 when 1=1);", 1, 13);
        bad(0, "go 1 when (1+1)=2;", 1, 14);
        bad(0, "go 1 when not;", 1, 13);
        bad(0, "go 1 when ()1=1;", 1, 11);
        bad(0, "go 1 when 1<>2;", 1, 12);
        bad(0, "go sign;", 1, 3);
        bad(0, times(16, "go 1;") + "go 1;", 3, 80);
        bad(0, times(16, "go 1;") + " stray", 3, 81);
        bad(0, times(16, "go 1;") + "age 1;", 1, 80);
        bad(0, times(16, "go 1;") + "1", 1, 80);
        bad(0, "go 1 when " + times(9, "(") + "1=1" + times(9, ")") + ";", 3, 18);
        bad(0, "go 1 when " + times(8, "(") + "not 1=1" + times(8, ")") + ";", 3, 18);
        bad(0, "go 1 when " + times(4, "not(") + "(1=1" + times(5, ")") + ";", 3, 26);
        IsHeIn x = house(1);
        good(x, 0, "go 1 when " + times(8, "(") + "1=1" + times(8, ")") + ";", 1);
        good(x, 0, "go 1 when " + times(4, "not(") + "1=1" + times(4, ")") + ";", 1);
        good(x, 0, "go 1 when " + times(8, "not ") + "1=1 and " + times(8, "not ") + "1=1;", 1);
        good(x, 0, "go 1 when (1=1) and (1=1) and (1=1) and (1=1) and (1=1) and (1=1) and (1=1) and (1=1) and (1=1);",
            1);
        good(x, 0, "go 0009/0001;", 1);
    }

    private static void signAndShiftFaults() {
        bad(1, "sign", 1, 4);
        bad(1, "go 1;", 1, 0);
        bad(1, "sign in", 1, 7);
        bad(1, "sign in age out 1;", 1, 8);
        bad(1, "sign in 0 out 1;", 2, 8);
        bad(1, "sign in 1000 out 1;", 2, 8);
        bad(1, "sign in 10000 out 1;", 1, 8);
        bad(1, "sign in 1 out 0;", 2, 14);
        bad(1, "sign in 1 out 1000;", 2, 14);
        bad(1, "sign in 1 in 1;", 1, 10);
        bad(1, "sign out 1 in 1;", 1, 5);
        bad(1, "sign in 1 out 1", 1, 15);
        bad(1, "sign in 1 out 1;;", 1, 16);
        bad(1, times(6, "sign in 1 out 1;") + "sign", 3, 96);
        bad(1, times(6, "sign in 1 out 1;") + "in", 1, 96);
        bad(2, "clerk 4 from 0 for 1 at 0;", 2, 6);
        bad(2, "clerk 0 from 24 for 1 at 0;", 2, 13);
        bad(2, "clerk 0 from 0 for 0 at 0;", 2, 19);
        bad(2, "clerk 0 from 0 for 25 at 0;", 2, 19);
        bad(2, "clerk 0 from 0 for 1 at 2;", 2, 24);
        bad(2, "clerk from 0 for 1 at 2;", 1, 6);
        bad(2, "clerk 0 for 1 at 0;", 1, 8);
        bad(2, "clerk 0 from 0 at 0;", 1, 15);
        bad(2, "clerk 0 from 0 for 1;", 1, 20);
        bad(2, "clerk 0 from 0 for 1 at 1", 1, 25);
        bad(2, "sign in 1 out 1;", 1, 0);
        bad(2, times(12, "clerk 1 from 1 for 1 at 1;") + "clerk", 3, 312);
        bad(2, times(12, "clerk 1 from 1 for 1 at 1;") + "at", 1, 312);
        IsHeIn x = new IsHeIn();
        good(x, 1, "sign in 999 out 1;sign in 0001 out 999;", 2);
        good(x, 2, "clerk 0 from 0 for 1 at 0;clerk 3 from 23 for 24 at 1;", 2);
    }

    // ---- the law ----

    private static void lawTells() {
        IsHeIn x = house(6);
        int[] untold = {100, 200, 300, 0, 500, 900};
        for (int w = 0; w < 6; w++) {
            due("untold", x.of(0, 6 + w), untold[w]);
        }
        tell(x, 0, "go 1;come 2;carry 3;stray 4;front 5;prior 6;");
        for (int w = 0; w < 6; w++) {
            due("told", x.of(0, 6 + w), w + 1);
        }
        x.set(0, 0, 11);
        x.set(1, 0, 7);
        tell(x, 0, "go guest;come floor;carry age;stray pear;front rain;prior board;");
        int[] ofFive = {5, 1, 50, 11, 7, 0};
        for (int w = 0; w < 6; w++) {
            due("of guest 5", x.of(5, 6 + w), ofFive[w]);
        }
        tell(x, 0, "go 1000 when hour<1;");
        tell(x, 0, "go 1000 when day=0 and clock=0;go 0;come 0;carry 0;");
        x.hours(1);
        due("prior, his key on the board", x.of(0, 11), 100);
        tell(x, 0, "go clock;come day;carry board;stray since;");
        x.hours(25);
        due("clock", x.of(0, 6), 2);
        due("day", x.of(0, 7), 1);
        yes("board", x.of(0, 8) == (x.of(0, 3) == NONE ? 0 : 1));
        due("since", x.of(0, 9), x.of(0, 4));
    }

    private static int go(String sum) {
        IsHeIn x = house(3);
        due(sum, tell(x, 0, "go " + sum + ";"), 1);
        return x.of(2, 6);
    }

    private static void lawReckons() {
        due("7+8*2", go("7+8*2"), 23);
        due("100-30-20", go("100-30-20"), 50);
        due("100-30+20", go("100-30+20"), 90);
        due("100/7*7", go("100/7*7"), 98);
        due("7*100/7", go("7*100/7"), 100);
        due("2*3+4*5-6/4", go("2*3+4*5-6/4"), 25);
        due("1-8/3", go("1-8/3"), 0);
        due("100+0*9-7/2", go("100+0*9-7/2"), 97);
        due("held to 0", go("1-2"), 0);
        due("held to 1000", go("9999"), 1000);
        due("1000", go("1000"), 1000);
        due("age 20", go("age*3-5"), 55);
        due("age 20 by 8", go("age/8*2"), 4);
        // 9999*9999*30 wraps to -1295567266
        due("/ goes towards 0", go("1295*1000+568+9999*9999*30/1000"), 1);
        int wrapped = 9999 * 9999 * 9999;
        due("wraps", go("9999*9999*9999/1000/1000"), Math.max(0, Math.min(1000, wrapped / 1000 / 1000)));
        IsHeIn x = house(1);
        tell(x, 0, "go 5 when 0-7/2=0-3;go 6;");
        due("- binds less than /", x.of(0, 6), 5);
        tell(x, 0, "go 5 when age-7>0;go 6+age-7;");
        due("age 0: 6+0-7, held", x.of(0, 6), 0);
        x.set(0, 0, 3);
        tell(x, 0, "go 10+pear*0+guest*0-pear*3/2;");
        due("9/2 is 4", x.of(0, 6), 6);
    }

    private static int lawWhen(String when) {
        IsHeIn x = house(3);
        due(when, tell(x, 0, "prior 700 when " + when + ";prior 50;"), 2);
        return x.of(2, 11);
    }

    private static void lawChooses() {
        due("=", lawWhen("guest=2"), 700);
        due("=", lawWhen("guest=1"), 50);
        due("<", lawWhen("guest<2"), 50);
        due("<", lawWhen("guest<3"), 700);
        due(">", lawWhen("guest>1"), 700);
        due(">", lawWhen("guest>2"), 50);
        due("not", lawWhen("not guest=2"), 50);
        due("not not", lawWhen("not not guest=2"), 700);
        due("and binds more than or", lawWhen("1=1 or 1=2 and 1=2"), 700);
        due("and binds more than or", lawWhen("1=2 and 1=1 or 1=1"), 700);
        due("( )", lawWhen("(1=1 or 1=2) and 1=2"), 50);
        due("not binds most", lawWhen("not 1=2 and 1=2"), 50);
        due("not of ( )", lawWhen("not (1=2 and 1=2)"), 700);
        due("not of ( ) in a chain", lawWhen("1=1 and not (1=2 or 1=1) or 1=2"), 50);
        due("or, or", lawWhen("1=2 or 1=2 or 1=1"), 700);
        due("and, and", lawWhen("1=1 and 1=1 and 1=2"), 50);
        due("((", lawWhen("((1=2 or (1=1 and 2=2)) and 3=3)"), 700);
        due("sums in it", lawWhen("age-1*5<guest+14"), 700);
        IsHeIn x = house(2);
        tell(x, 0, "go 1 when guest=0;go 2;go 3;come 9 when guest=5;");
        due("the first that is so", x.of(0, 6), 1);
        due("the first that has none", x.of(1, 6), 2);
        due("none is so", x.of(0, 7), 200);
    }

    // ---- what stands written ----

    private static void twelve() {
        IsHeIn x = house(2, "go 1000 when guest=1;go 0;come 0;carry 0;");
        x.hours(3);
        int[] zero = {0, 0, 0, NONE, 3, 900000, 0, 0, 0, 0, 500, 900};
        int[] other = {1, 10, 1, 1, 2, 100000, 1000, 0, 0, 0, 500, 100};
        for (int what = 0; what < 12; what++) {
            due("of(0, " + what + ")", x.of(0, what), zero[what]);
            due("of(1, " + what + ")", x.of(1, what), other[what]);
        }
        due("of(0, 12)", x.of(0, 12), NO_SUCH);
        due("of(0, -1)", x.of(0, -1), NO_SUCH);
        due("of(2, 0)", x.of(2, 0), NO_SUCH);
        due("of(-1, 0)", x.of(-1, 0), NO_SUCH);
        tell(x, 1, "sign in 800 out 100;sign in 300 out 600;");
        x.looks(0, 0, 1);
        due("seen", x.of(0, 5), 900000L * 800 * 1000000 / (900000L * 800 + 100000L * 100));
        x.looks(0, 1, 0);
        due("then not seen", x.of(0, 5), 1000000L * 986301 * 700 / (986301L * 700 + 13699L * 400));
        tell(x, 0, "prior 0;");
        due("surely out", x.of(0, 5), 0);
        tell(x, 0, "prior 1000;");
        due("surely in", x.of(0, 5), 1000000);
    }

    private static void thirteen() {
        IsHeIn x = house(3, "go 1000;come 0;carry 1000 when guest=2;carry 0;stray 0;");
        due("hook(0)", x.hook(0), NONE);
        x.hours(1);
        due("hook(0)", x.hook(0), 0);
        due("hook(1)", x.hook(1), 1);
        due("hook(2)", x.hook(2), NONE);
        due("hook(3)", x.hook(3), NO_SUCH);
        due("hook(-1)", x.hook(-1), NO_SUCH);
        due("hook(12)", x.hook(12), NO_SUCH);
    }

    private static void fourteen() {
        IsHeIn x = house(2);
        tell(x, 1, "sign in 12 out 34;sign in 56 out 78;");
        due("sign(1, 0)", x.sign(1, 0), 56);
        due("sign(1, 1)", x.sign(1, 1), 78);
        x.looks(1, 1, 0);
        due("sign(1, 3)", x.sign(1, 3), 0);
        due("sign(0, 3)", x.sign(0, 3), NONE);
        due("sign(1, 2)", x.sign(1, 2), NONE);
        due("sign(1, 4)", x.sign(1, 4), NO_SUCH);
        due("sign(1, -1)", x.sign(1, -1), NO_SUCH);
        due("sign(2, 0)", x.sign(2, 0), NO_SUCH);
        due("sign(-1, 0)", x.sign(-1, 0), NO_SUCH);
        due("sign(0, MIN)", x.sign(0, Integer.MIN_VALUE), NO_SUCH);
    }

    private static void fifteen() {
        IsHeIn x = house(1, "go 1000;come 1000;front 0;");
        due("book(0, 0)", x.book(0, 0), NO_SUCH);
        x.hours(2);
        int[][] lines = {{0, 0, 0, 1, NONE}, {1, 1, 0, 1, NONE}};
        for (int i = 0; i < 2; i++) {
            for (int what = 0; what < 5; what++) {
                due("book(" + i + ", " + what + ")", x.book(i, what), lines[i][what]);
            }
        }
        due("book(2, 0)", x.book(2, 0), NO_SUCH);
        due("book(-1, 0)", x.book(-1, 0), NO_SUCH);
        due("book(0, 5)", x.book(0, 5), NO_SUCH);
        due("book(0, -1)", x.book(0, -1), NO_SUCH);
    }

    // ---- in thought: who is in ----

    private static void sixteen() {
        IsHeIn x = house(1, "prior 500;");
        due("no signs", x.next(0), NONE);
        tell(x, 1, "sign in 500 out 500;sign in 999 out 1;sign in 1 out 999;");
        due("what tells most, the least of several", x.next(0), 1);
        x.looks(0, 1, 1);
        due("now nothing tells more", x.next(0) == 0 || x.next(0) == 2 ? 1 : 0, 1);
        x.looks(0, 0, 1);
        due("the one left", x.next(0), 2);
        x.looks(0, 2, 0);
        due("none left", x.next(0), NONE);
        due("next(1)", x.next(1), NONE);
        due("next(-1)", x.next(-1), NONE);
        IsHeIn y = house(1, "prior 900;");
        tell(y, 1, "sign in 500 out 500;sign in 600 out 600;");
        due("none tells anything: the least", y.next(0), 0);
        tell(y, 1, "sign in 900 out 800;sign in 10 out 900;");
        due("the sign of one who is out", y.next(0), 1);
    }

    private static void seventeen() {
        IsHeIn x = house(1, "prior 800;");
        due("just not above", x.say(0, 4, 1), 1);
        due("above", x.say(0, 5, 1), 0);
        due("0, 0", x.say(0, 0, 0), 1);
        due("1, 0", x.say(0, 1, 0), 0);
        due("9999", x.say(0, 9999, 9999), 1);
        due("9999, 2499", x.say(0, 9999, 2499), 0);
        due("9999, 2500", x.say(0, 9999, 2500), 1);
        due("x 10000", x.say(0, 10000, 1), NONE);
        due("y 10000", x.say(0, 1, 10000), NONE);
        due("x -1", x.say(0, -1, 1), NONE);
        due("y -1", x.say(0, 1, -1), NONE);
        due("say(1, ..)", x.say(1, 1, 1), NONE);
        due("say(-1, ..)", x.say(-1, 1, 1), NONE);
        tell(x, 0, "prior 0;");
        due("surely out", x.say(0, 1, 9999), 0);
        due("surely out, at no cost", x.say(0, 0, 9999), 1);
    }

    private static void eighteen() {
        IsHeIn x = house(3, "prior 500;");
        due("many(0)", x.many(0), 1);
        due("many(1), the least of several", x.many(1), 1);
        due("many(2)", x.many(2), 375000);
        due("many(3)", x.many(3), NONE);
        due("many(-1)", x.many(-1), NONE);
        tell(x, 0, "prior 333 when guest=0;prior 667 when guest=1;prior 999;");
        due("many(0)", x.many(0), 1);
        // c: 667000 333000; then 222111, 444889 + 110889, 222111; then by 999.
        due("many(1)", x.many(1), 2);
        long one = 667000L * 667000 / 1000000 + 333000L * 333000 / 1000000;
        long two = 333000L * 667000 / 1000000;
        due("many(2)", x.many(2), two * 1000 / 1000000 + one * 999000 / 1000000);
    }

    private static void nineteen() {
        IsHeIn x = house(3, "prior 500;");
        // 125000 375000 375000 125000
        int[][] spans = {{0, 0, 0}, {125, 0, 0}, {126, 1, 1}, {375, 1, 1}, {376, 0, 1}, {500, 0, 1}, {501, 1, 2},
            {750, 1, 2}, {751, 0, 2}, {875, 0, 2}, {876, 0, 3}, {1000, 0, 3}};
        for (int[] s : spans) {
            due("span(" + s[0] + ", 0)", x.span(s[0], 0), s[1]);
            due("span(" + s[0] + ", 1)", x.span(s[0], 1), s[2]);
        }
        due("span(1001, 0)", x.span(1001, 0), NONE);
        due("span(-1, 0)", x.span(-1, 0), NONE);
        due("span(500, 2)", x.span(500, 2), NONE);
        due("span(500, -1)", x.span(500, -1), NONE);
        tell(x, 0, "prior 333;");
        due("downwards: no row has all", x.span(1000, 0), NONE);
    }

    private static void twenty() {
        IsHeIn x = house(3, "prior 500 when guest=0;prior 250 when guest=1;prior 1000;");
        // the others of 0: 0 750000 250000; of 1: 0 500000 500000; of 2: 375000 500000 125000
        due("counted(0, 0)", x.counted(0, 0), NONE);
        due("counted(0, 1)", x.counted(0, 1), 0);
        due("counted(0, 2)", x.counted(0, 2), 750000);
        due("counted(1, 2)", x.counted(1, 2), 250000);
        due("counted(2, 2)", x.counted(2, 2), 1000000);
        due("counted(0, 3)", x.counted(0, 3), 1000000);
        due("counted(0, 4)", x.counted(0, 4), NONE);
        due("counted(0, 12)", x.counted(0, 12), NONE);
        due("counted(0, 13)", x.counted(0, 13), NONE);
        due("counted(0, -1)", x.counted(0, -1), NONE);
        due("counted(3, 1)", x.counted(3, 1), NONE);
        due("counted(-1, 1)", x.counted(-1, 1), NONE);
        IsHeIn y = house(12, "prior 500;");
        due("all twelve", y.counted(11, 12), 1000000);
        due("none of twelve", y.counted(11, 0), 0);
        due("six of twelve", y.counted(11, 6), 500000);
    }

    private static void twentyOne() {
        IsHeIn x = house(1, "prior 500;go 100 when clock<3;go 0;come 200 when clock=3;come 0;");
        due("k: now is best", x.visit(0, 0), 0);
        due("p", x.visit(0, 1), 500000);
        // 450000 405000 364500; then come 200 of 635500: 127100 more
        tell(x, 0, "prior 500;go 100 when clock<3;go 0;come 900 when clock=3 and day=0;come 0;");
        due("k", x.visit(0, 0), 4);
        due("p", x.visit(0, 1), 364500 + 635500 * 900 / 1000);
        x.hours(5);
        due("clock and day go on", x.visit(0, 0), 0);
        tell(x, 0, "prior 500;go 0;come 500 when day=1 and clock=2;come 0;");
        due("k", x.visit(0, 0), 22);
        due("p", x.visit(0, 1), 750000);
        tell(x, 0, "prior 500;go 0;come 1000 when day=1 and clock=3;come 0;");
        due("the last k", x.visit(0, 0), 23);
        tell(x, 0, "prior 500;go 0;come 1000 when day=1 and clock=4;come 0;");
        due("beyond the last k", x.visit(0, 0), 0);
        tell(x, 0, "prior 500;go 333;come 777;");
        due("both of the same p", x.visit(0, 1), visited(500000, 333, 777));
        due("visit(1, 0)", x.visit(1, 0), NONE);
        due("visit(-1, 0)", x.visit(-1, 0), NONE);
        due("visit(0, 2)", x.visit(0, 2), NONE);
        due("visit(0, -1)", x.visit(0, -1), NONE);
    }

    private static int visited(int p, int go, int come) {
        int most = p;
        for (int k = 1; k < 24; k++) {
            p = p - p * go / 1000 + (1000000 - p) * come / 1000;
            most = Math.max(most, p);
        }
        return most;
    }

    private static void twentyTwo() {
        IsHeIn x = house(6, "prior 333 when guest=1;prior 100 when guest=5;prior 999;");
        due("empty(1)", x.empty(1), 667000L * 900000 / 1000000);
        due("empty(0)", x.empty(0), 1);
        due("empty(3)", x.empty(3), 1000);
        due("empty(4)", x.empty(4), NONE);
        due("empty(-1)", x.empty(-1), NONE);
        due("nobody on it", new IsHeIn().empty(3), 1000000);
    }

    private static void twentyThree() {
        IsHeIn x = house(4, "go 1000 when clock=1 and guest>1;go 1000 when clock=0 and guest=0;go 0;come 0;"
            + "carry 0 when guest=0;carry 1000;");
        due("none", x.thief(), NONE);
        x.hours(1);
        due("his key hangs", x.thief(), NONE);
        x.hours(1);
        due("of several the least", x.thief(), 2);
        x.hang(2, 2);
        due("the other", x.thief(), 3);
        IsHeIn y = house(3, "go 1000 when clock=2-guest;go 0;come 0;carry 1000;");
        y.hours(1);
        due("out first", y.thief(), 2);
        y.hours(2);
        due("longest out", y.thief(), 2);
    }

    // ---- in thought: the law of other hours and tags; the book ----

    private static void twentyFour() {
        IsHeIn x = house(3, "carry 400-pear*50 when guest<2;carry 333;");
        due("w 0", x.tagCost(10, 3, 0), 11);
        due("w 2", x.tagCost(10, 3, 2), 9 + 6);
        due("w 20", x.tagCost(999, 999, 20), 333 * 999 / 1000 + 20 * 999);
        due("0, 0", x.tagCost(0, 0, 0), 0);
        due("w 21", x.tagCost(1, 1, 21), NONE);
        due("w -1", x.tagCost(1, 1, -1), NONE);
        due("x 1000", x.tagCost(1000, 1, 1), NONE);
        due("x -1", x.tagCost(-1, 1, 1), NONE);
        due("y 1000", x.tagCost(1, 1000, 1), NONE);
        due("y -1", x.tagCost(1, -1, 1), NONE);
        due("the pear is as it was", x.look(4), 0);
        due("without guests", new IsHeIn().tagCost(999, 2, 3), 6);
    }

    private static void twentyFive() {
        IsHeIn x = house(2, "go 1000;come 1000;front 1000 when guest=0;front 0;carry 0;");
        tell(x, 2, "clerk 0 from 0 for 2 at 0;clerk 3 from 1 for 1 at 1;");
        x.hours(3);
        due("with", x.saw(0, 0), 2);
        due("without", x.saw(0, 1), 1);
        due("with", x.saw(1, 0), 1);
        due("without", x.saw(1, 1), 2);
        x.hang(0, 1);
        yes("by hand", x.hook(1) == 1);
        tell(x, 0, "come 1000 when guest=1;come 0;go 0;");
        x.hours(1);
        yes("a hanging has no clerk", x.hang(0, 1));
        due("nor does it count", x.saw(0, 1), 1);
        due("saw(2, 0)", x.saw(2, 0), NONE);
        due("saw(-1, 0)", x.saw(-1, 0), NONE);
        due("saw(0, 2)", x.saw(0, 2), NONE);
        due("saw(0, -1)", x.saw(0, -1), NONE);
    }

    private static void twentySix() {
        IsHeIn x = house(3, "go 1000;come 1000 when guest<2;come 0;front 1000 when guest=0;front 0;carry 1000;");
        x.hours(2);
        due("0 went", x.by(0, 0), 1);
        due("0 came", x.by(0, 1), 1);
        due("1 went", x.by(1, 0), 2);
        due("1 came", x.by(1, 1), 1);
        yes("hang", x.hang(2, 1));
        due("a hanging is no going", x.by(1, 0) + x.by(1, 1), 3);
        due("by(2, 0)", x.by(2, 0), NONE);
        due("by(-1, 0)", x.by(-1, 0), NONE);
        due("by(0, 2)", x.by(0, 2), NONE);
        due("by(0, -1)", x.by(0, -1), NONE);
    }

    private static void twentySevenAndEight() {
        IsHeIn x = house(2, "prior 800 when guest=0;prior 333;");
        due("said(0)", x.said(0), 0);
        due("said(1)", x.said(1), 0);
        due("caller", x.caller(0, 4, 1), 1);
        due("caller", x.caller(1, 999, 999), 2);
        due("caller", x.caller(0, 999, 0), 3);
        due("caller", x.caller(1, 0, 1), 4);
        due("x 1000", x.caller(0, 1000, 0), NONE);
        due("x -1", x.caller(0, -1, 0), NONE);
        due("y 1000", x.caller(0, 0, 1000), NONE);
        due("y -1", x.caller(0, 0, -1), NONE);
        due("no such guest", x.caller(2, 1, 1), NONE);
        due("guest -2", x.caller(-2, 1, 1), NONE);
        due("look(13)", x.look(13), 4);
        due("said(0)", x.said(0), 1 + 8);
        due("said(1)", x.said(1), 0 + 332 + 0 + 0);
        due("said(2)", x.said(2), NONE);
        due("said(-1)", x.said(-1), NONE);
        for (int i = 5; i <= 8; i++) {
            due("caller", x.caller(1, 999, 999), i);
        }
        due("the ninth", x.caller(1, 0, 0), NONE);
        due("each downwards", x.said(1), 332 * 5);
        due("none", x.caller(NONE, 0, 0), 0);
        due("look(13)", x.look(13), 0);
        due("said(0)", x.said(0), 0);
    }

    private static void twentyNine() {
        IsHeIn x = house(1, "prior 500;");
        due("no signs", x.looksAt(0, 0), NONE);
        tell(x, 1, "sign in 500 out 500;sign in 900 out 100;sign in 100 out 800;");
        due("the first is next", x.looksAt(0, 0), x.next(0));
        due("the first", x.looksAt(0, 0), 1);
        int second = x.looksAt(0, 1);
        int third = x.looksAt(0, 2);
        due("the others", second + third, 2);
        due("no fourth", x.looksAt(0, 3), NONE);
        due("i -1", x.looksAt(0, -1), NONE);
        due("i 6", x.looksAt(0, 6), NONE);
        due("no such guest", x.looksAt(1, 0), NONE);
        due("guest -1", x.looksAt(-1, 0), NONE);
        due("nothing of it stays", x.sign(1, 2), NONE);
        // s of the first is just 500000, so it is as if it were seen.
        x.looks(0, 1, 1);
        due("second", second, x.next(0));
        x.looks(0, second, x.of(0, 5) > 500000 && second == 2 ? 0 : 1);
        due("third", third, x.next(0));
        IsHeIn y = house(1, "prior 100;");
        tell(y, 1, "sign in 700 out 300;sign in 950 out 50;sign in 600 out 400;sign in 300 out 200;"
            + "sign in 990 out 400;sign in 20 out 600;");
        for (int i = 0; i < 6; i++) {
            int next = y.looksAt(0, 0);
            due("as next", next, y.next(0));
            int after = y.looksAt(0, 1);
            long p = y.of(0, 5);
            long s = (p * y.sign(next, 0) + (1000000 - p) * y.sign(next, 1)) / 1000;
            yes("look", y.looks(0, next, s >= 500000 ? 1 : 0));
            due("the way that was thought", y.next(0), after);
        }
    }

    private static void thirty() {
        IsHeIn x = house(1);
        due("not two", x.pair(0), NONE);
        due("not two", x.pair(2), NONE);
        x = house(4, "prior 333 when guest=0;prior 777 when guest<3;prior 500;");
        due("a", x.pair(0), 1);
        due("b", x.pair(1), 2);
        due("the chance", x.pair(2), 777000L * 777000 / 1000000);
        due("pair(3)", x.pair(3), NONE);
        due("pair(-1)", x.pair(-1), NONE);
        tell(x, 0, "prior 0;");
        due("of several the first", x.pair(0), 0);
        due("of several the first", x.pair(1), 1);
        due("0", x.pair(2), 0);
        tell(x, 0, "prior 600 when guest=0;prior 500;");
        due("0, then the first b", x.pair(1), 1);
    }

    private static void thirtyOneAndNine() {
        IsHeIn x = hung(1, 0, 2, 4, 5, 3, NONE, 6);
        int[] rings = {2, 2, 0, 3, 3, 3, 0, 0};
        for (int g = 0; g < 8; g++) {
            due("ring(" + g + ")", x.ring(g), rings[g]);
        }
        due("ring(8)", x.ring(8), NONE);
        due("ring(-1)", x.ring(-1), NONE);
        due("swapped", x.swapped(0), 1 + 2 + 8 + 16 + 32 + 64);
        due("hands", x.swapped(1), 6 + 2);
        due("rings", x.swapped(2), 2);
        due("swapped(3)", x.swapped(3), NONE);
        due("swapped(-1)", x.swapped(-1), NONE);
        IsHeIn y = hung(1, 2, 3, NONE);
        due("a row is no ring", y.ring(0), 0);
        due("hands", y.swapped(1), 3);
        due("rings", y.swapped(2), 0);
        due("swapped", y.swapped(0), 2 + 4 + 8);
        IsHeIn z = hung(11, 0, 1, 2, 3, 4, 5, 6, 7, 8, 9, 10);
        due("a ring of twelve", z.ring(7), 12);
        due("hands", z.swapped(1), 13);
        due("rings", z.swapped(2), 1);
        due("all", z.swapped(0), 4095);
        due("hooks", z.look(3), 4095);
        IsHeIn w = hung(0, 1);
        due("each on his own", w.swapped(0), 0);
        due("hands", w.swapped(1), 0);
        due("ring", w.ring(0), 0);
    }

    private static void thirtyTwoAndThree() {
        IsHeIn x = house(3, "go 1000 when guest=0 and clock=0;go 333 when clock>20;go 5;come 999 when clock=7;come 1;");
        due("now", x.expect(), (1000 + 5 + 5) / 1000);
        due("busy(0)", x.busy(0), 0);
        due("busy(1)", x.busy(1), 1);
        x.hours(1);
        due("out", x.look(2) & 1, 1);
        tell(x, 0, "go 1000 when clock>20;go 5;come 999 when clock=7;come 1;");
        due("of several the least", x.busy(0), 21);
        due("added, then by 1000", x.busy(1), 2);
        due("now", x.expect(), 0);
        tell(x, 0, "go 0;come 999 when clock=7 and day=0;come 1;");
        due("who is out may come", x.busy(0), 7);
        due("busy(1)", x.busy(1), 0);
        due("busy(2)", x.busy(2), NONE);
        due("busy(-1)", x.busy(-1), NONE);
        tell(x, 0, "go 500;come 1000;");
        due("1000 and 500 and 500", x.expect(), 2);
        tell(x, 0, "go 499;come 1000;");
        due("downwards", x.expect(), 1);
    }

    private static void thirtyFour() {
        IsHeIn x = house(5, "go 1000 when guest<4;go 0;come 0;carry 1000 when guest>1;carry 0;prior 333;");
        x.hours(1);
        due("without a hook", x.lack(0), 3);
        due("out by sure", x.lack(1), 3 * 667 / 1000);
        due("out", x.lack(2), 2);
        due("lack(3)", x.lack(3), NONE);
        due("lack(-1)", x.lack(-1), NONE);
        tell(x, 0, "prior 334;");
        due("downwards", x.lack(1), 1);
        tell(x, 0, "prior 333;");
        due("2001 thousands", x.lack(1), 2);
    }

    // ---- in thought: rounds ----

    private static void thirtyFive() {
        IsHeIn x = house(3, "prior 500 when guest=0;prior 100 when guest=1;prior 900;");
        due("no rooms", x.knocks(0), NONE);
        int[] guests = {2, 0, 1, 0, 1};
        for (int g : guests) {
            x.room(g, 1, 1, 1);
        }
        int[] order = {2, 4, 1, 3, 0};
        for (int i = 0; i < 5; i++) {
            due("knocks(" + i + ")", x.knocks(i), order[i]);
        }
        due("knocks(5)", x.knocks(5), NONE);
        due("knocks(-1)", x.knocks(-1), NONE);
    }

    private static void thirtySix() {
        IsHeIn x = house(4, "carry 600-pear*50;");
        due("it pays to the last", x.tag(10, 1), 12);
        due("of several the least", x.tag(10, 2), 0);
        due("it does not pay", x.tag(10, 3), 0);
        due("nothing costs", x.tag(0, 0), 0);
        due("only carrying costs", x.tag(999, 0), 12);
        tell(x, 0, "carry 1000-pear*50;");
        due("the heaviest", x.tag(999, 0), 20);
        due("x 1000", x.tag(1000, 0), NONE);
        due("x -1", x.tag(-1, 0), NONE);
        due("y 1000", x.tag(0, 1000), NONE);
        due("y -1", x.tag(0, -1), NONE);
        due("the pear is as it was", x.look(4), 0);
    }

    private static void thirtySevenAndEight() {
        IsHeIn x = house(2);
        due("no rooms", x.done(0), 0);
        due("no rooms", x.done(1), 0);
        due("room", x.room(0, 10, 20, 5), 1);
        due("room", x.room(1, 15, 20, 7), 2);
        due("room", x.room(1, 5, 25, 3), 3);
        due("minutes 0", x.room(0, 0, 1, 1), NONE);
        due("minutes 100", x.room(0, 100, 1, 1), NONE);
        due("by 0", x.room(0, 1, 0, 1), NONE);
        due("by 1000", x.room(0, 1, 1000, 1), NONE);
        due("worth -1", x.room(0, 1, 1, -1), NONE);
        due("worth 100", x.room(0, 1, 1, 100), NONE);
        due("no such guest", x.room(2, 1, 1, 1), NONE);
        due("guest -2", x.room(-2, 1, 1, 1), NONE);
        due("look(11)", x.look(11), 3);
        due("worth", x.done(0), 10);
        due("set", x.done(1), 6);
        due("done(2)", x.done(2), NONE);
        due("done(-1)", x.done(-1), NONE);
        due("none", x.room(NONE, 1, 1, 1), 0);
        due("look(11)", x.look(11), 0);
        x.room(0, 99, 99, 1);
        x.room(0, 1, 98, 1);
        x.room(0, 1, 99, 0);
        due("of several the fewest, then the least", x.done(1), 1);
        x.room(0, 1, 1, 1);
        due("two short ones", x.done(0), 2);
        due("two short ones", x.done(1), 2 + 8);
        for (int i = 5; i <= 8; i++) {
            due("room", x.room(1, 99, 999, 99), i);
        }
        due("the ninth", x.room(1, 1, 1, 1), NONE);
        due("all but the last of what ends at 99", x.done(0), 2 + 4 * 99);
        x.room(NONE, 0, 0, 0);
        x.room(0, 10, 9, 50);
        due("not by its when", x.done(1), 0);
        x.room(0, 9, 9, 1);
        due("wholly by its when", x.done(1), 2);
        x.room(0, 5, 20, 2);
        x.room(0, 7, 20, 3);
        due("9, 5 and 7 are too much for 20", x.done(0), 5);
        due("of several the fewest", x.done(1), 12);
        IsHeIn y = house(1);
        y.room(0, 5, 30, 6);
        y.room(0, 5, 30, 3);
        y.room(0, 5, 5, 3);
        y.room(0, 25, 30, 6);
        due("3 and 6 and 3", y.done(0), 12);
        due("fewer rooms are better", y.done(1), 9);
    }

    private static void forty() {
        IsHeIn x = new IsHeIn();
        x.guest(0, 1);
        x.guest(2, 1);
        x.guest(2, 1);
        x.guest(3, 1);
        tell(x, 0, "prior 1000 when floor=2;prior 900;");
        int[][] ways = {{2, 0, 0}, {3, 0, 1, 0}, {6, 0, 1, 0}, {7, 2, 1, 2}, {9, 2, 1, 2}, {10, 2, 2, 0, 2},
            {11, 2, 2, 0, 2}, {12, 2, 2, 0, 2}, {13, 2, 3, 0, 1, 2}, {14, 2, 3, 0, 1, 2}, {15, 3, 3, 0, 2, 3},
            {17, 3, 3, 0, 2, 3}, {18, 3, 4, 0, 1, 2, 3}, {99, 3, 4, 0, 1, 2, 3}};
        for (int[] way : ways) {
            due("fire(" + way[0] + ", 0)", x.fire(way[0], 0), way[1]);
            due("fire(" + way[0] + ", 1)", x.fire(way[0], 1), way[2]);
            for (int i = 0; i < way[2]; i++) {
                due("fire(" + way[0] + ", " + (10 + i) + ")", x.fire(way[0], 10 + i), way[3 + i]);
            }
            due("no more", x.fire(way[0], 10 + way[2]), NONE);
        }
        due("fire(0, 0)", x.fire(0, 0), NONE);
        due("fire(100, 0)", x.fire(100, 0), NONE);
        due("fire(-1, 0)", x.fire(-1, 0), NONE);
        due("fire(9, 2)", x.fire(9, 2), NONE);
        due("fire(9, -1)", x.fire(9, -1), NONE);
        due("fire(9, 9)", x.fire(9, 9), NONE);
        due("fire(9, MIN)", x.fire(9, Integer.MIN_VALUE), NONE);
        tell(x, 0, "prior 0;");
        due("nobody to find: no floor", x.fire(99, 1), 0);
    }

    private static void fortyOne() {
        IsHeIn x = house(2, "go 500 when clock<2;go 300 when clock>21;go 0;"
            + "front 999 when clock<2;front 0 when clock>21;front 500;");
        // doors: front 499 * 2, back 1 * 2 for two clocks; later back 300 * 2 for two
        due("the most", x.stands(0, 0), 2 * 998 + 2 * 600);
        due("one change", x.stands(100, 0), 2 * 998 + 2 * 600 - 100);
        due("it does not pay", x.stands(999, 0), 2 * 998 + 2 * 600 - 999);
        due("DOOR 0 first", x.stands(0, 10 + 5), 0);
        due("DOOR 0 as long as may be", x.stands(999, 10 + 21), 0);
        due("the back", x.stands(999, 10 + 22), 1);
        due("the back", x.stands(999, 10 + 23), 1);
        due("the front", x.stands(999, 10), 0);
        due("price 1000", x.stands(1000, 0), NONE);
        due("price -1", x.stands(-1, 0), NONE);
        due("stands(0, 1)", x.stands(0, 1), NONE);
        due("stands(0, 9)", x.stands(0, 9), NONE);
        due("stands(0, 34)", x.stands(0, 34), NONE);
        due("stands(0, -1)", x.stands(0, -1), NONE);
        tell(x, 0, "go 100 when clock=0;go 0;front 400;");
        due("begin at the back", x.stands(5, 10), 1);
        due("stay there, for a change costs", x.stands(5, 33), 1);
        due("change for nothing", x.stands(0, 11), 0);
        due("the most", x.stands(5, 0), 120);
        tell(x, 0, "go 1000;carry 1000;");
        x.hours(1);
        due("who is out does not go", x.stands(0, 0), 0);
        due("nobody", new IsHeIn().stands(7, 33), 0);
    }

    private static void fortyTwo() {
        IsHeIn x = house(4, "go 1000 when clock=0 and guest<3;go 1000 when clock=2;go 0;"
            + "come 1000 when clock=1 and guest=0;come 0;carry 1000;front 1000;");
        tell(x, 2, "clerk 1 from 0 for 1 at 0;clerk 2 from 2 for 1 at 0;");
        x.hours(1);
        due("tellsOn(1)", x.tellsOn(1), 7);
        x.hours(1);
        due("who came is in", x.tellsOn(1), 6);
        x.hours(1);
        due("the last going counts", x.tellsOn(2), 1 + 8);
        due("tellsOn(1)", x.tellsOn(1), 6);
        due("tellsOn(0)", x.tellsOn(0), 0);
        due("tellsOn(3)", x.tellsOn(3), 0);
        due("tellsOn(4)", x.tellsOn(4), NONE);
        due("tellsOn(-1)", x.tellsOn(-1), NONE);
        yes("a hanging is no going", x.hang(0, 0));
        due("tellsOn(2)", x.tellsOn(2), 1 + 8);
    }

    private static void fortyThree() {
        due("without guests", new IsHeIn().carries(), NONE);
        IsHeIn x = house(4);
        due("of several the least", x.carries(), 0);
        tell(x, 0, "carry 300+age when guest<3;carry 0;");
        due("the greatest", x.carries(), 2);
        tell(x, 0, "carry 0;");
        due("0 is as good", x.carries(), 0);
    }

    private static void fortyFour() {
        IsHeIn x = house(2, "go 1000 when guest=0;go 0;come 0;carry 1000;");
        due("he is in", x.away(0, 1), NONE);
        x.hours(1);
        tell(x, 0, "come 333;");
        due("away(0, 0)", x.away(0, 0), 1000000);
        due("away(0, 1)", x.away(0, 1), 667000);
        due("away(0, 2)", x.away(0, 2), 444889);
        due("downwards", x.away(0, 3), 444889 * 667L / 1000);
        due("away(0, 48)", x.away(0, 48), 0);
        due("away(0, 49)", x.away(0, 49), NONE);
        due("away(0, -1)", x.away(0, -1), NONE);
        due("away(1, 1)", x.away(1, 1), NONE);
        due("away(2, 1)", x.away(2, 1), NONE);
        due("away(-1, 1)", x.away(-1, 1), NONE);
        tell(x, 0, "come 1000 when since=5;come 0;");
        due("since goes on", x.away(0, 5), 1000000);
        due("since goes on", x.away(0, 6), 0);
        tell(x, 0, "come 1000 when day=1 and clock=3;come 0;");
        due("clock and day go on", x.away(0, 26), 1000000);
        due("clock and day go on", x.away(0, 27), 0);
        tell(x, 0, "come 0;");
        for (int i = 0; i < 17; i++) {
            x.hours(60);
        }
        tell(x, 0, "come 1000 when since>999;come 1;");
        due("since is 999 at most", x.away(0, 2), 998001);
    }

    // ---- going back ----

    private static void fortyFive() {
        IsHeIn x = house(2, "go 1000 when guest=0;go 0;come 1000;carry 0;");
        tell(x, 1, "sign in 5 out 6;");
        x.state(12345);
        x.hours(1);
        int after = x.look(7);
        x.hours(1);
        due("two", x.look(12), 2);
        yes("undo", x.undo());
        due("state", x.look(7), after);
        due("hour", x.look(1), 1);
        due("lines", x.look(6), 1);
        due("out", x.look(2), 1);
        due("hooks", x.look(3), 1);
        due("since", x.of(1, 4), 1);
        yes("hang", x.hang(0, 1));
        yes("look", x.looks(0, 0, 1));
        due("three", x.look(12), 3);
        yes("undo the look", x.undo());
        due("not looked", x.sign(0, 2), NONE);
        due("still hung", x.hook(1), 0);
        yes("undo the hanging", x.undo());
        due("as it was", x.hook(0), 0);
        due("lines", x.look(6), 1);
        yes("undo the hour", x.undo());
        due("state", x.look(7), 12345);
        due("hour", x.look(1), 0);
        due("nobody is out", x.look(2), 0);
        no("nothing is left", x.undo());
        x.hours(9);
        due("six are kept", x.look(12), 6);
        for (int i = 0; i < 6; i++) {
            yes("undo", x.undo());
        }
        no("nothing is left", x.undo());
        due("hour", x.look(1), 3);
        forgets();
    }

    private static void forgets() {
        IsHeIn x = house(2, "go 1000;come 1000;carry 0;");
        x.hours(1);
        tell(x, 0, "go 0;");
        x.room(0, 1, 1, 1);
        x.caller(0, 1, 1);
        x.image(true);
        due("law, room, caller, image forget nothing", x.look(12), 1);
        x.state(5);
        due("state forgets", x.look(12), 0);
        x.hours(1);
        x.guest(4, 4);
        due("no guest, nothing forgotten", x.look(12), 1);
        x.guest(1, 1);
        due("guest forgets", x.look(12), 0);
        for (int what = 0; what < 3; what++) {
            x.hours(1);
            x.set(what, 0, 100);
            due("not set, nothing forgotten", x.look(12), 1);
            x.set(what, 0, 1);
            due("set forgets", x.look(12), 0);
        }
        for (int k = 1; k < 3; k++) {
            x.hours(1);
            tell(x, k, "?");
            due("a fault, nothing forgotten", x.look(12), 1);
            tell(x, k, "");
            due("text forgets", x.look(12), 0);
        }
        x.hours(1);
        yes("back to the image", x.image(false));
        due("image forgets", x.look(12), 0);
        IsHeIn y = house(1, "go 1000;carry 0;");
        y.hours(1);
        tell(y, 0, "go 7;go 8;");
        y.room(0, 1, 1, 1);
        y.caller(0, 1, 1);
        yes("undo", y.undo());
        due("the law stays", y.look(8), 2);
        due("the rooms stay", y.look(11), 1);
        due("the callers stay", y.look(13), 1);
        due("in again", y.look(2), 0);
    }

    private static void fortySix() {
        IsHeIn x = house(2, "go 1000;come 1000;carry 0;");
        no("none is taken", x.image(false));
        tell(x, 1, "sign in 5 out 6;");
        tell(x, 2, "clerk 1 from 2 for 3 at 1;");
        x.set(0, 0, 4);
        x.set(1, 0, 5);
        x.state(99);
        x.hours(1);
        x.looks(1, 0, 1);
        x.room(1, 2, 3, 4);
        x.caller(1, 2, 3);
        yes("taken", x.image(true));
        due("undo stays", x.look(12), 2);
        int[] was = new int[14];
        for (int what = 0; what < 14; what++) {
            was[what] = x.look(what);
        }
        was[12] = 0;
        for (int again = 0; again < 2; again++) {
            x.guest(3, 3);
            x.hours(3);
            x.set(0, 0, 14);
            x.set(1, 0, 1);
            x.set(2, 1, 77);
            x.room(0, 1, 1, 1);
            x.caller(0, 1, 1);
            tell(x, 1, "");
            tell(x, 2, "");
            tell(x, 0, "go 0");
            due("a fault", x.fault(0), 1);
            tell(x, 0, "");
            tell(x, 0, "go 0");
            x.feed(1, 2, 3, 4, 5);
            yes("back", x.image(false));
            for (int what = 0; what < 14; what++) {
                due("image: look(" + what + ")", x.look(what), was[what]);
            }
            due("fault stays", x.fault(0), 1);
            yes("the tape stays", x.end(20));
            x.end(0);
            due("age", x.of(1, 1), 10);
            due("seen", x.sign(0, 3), 1);
            due("in", x.sign(0, 0), 5);
            due("book", x.book(1, 2), 1);
            due("law", x.of(0, 6), 1000);
            no("nothing to undo", x.undo());
            due("worth", x.done(0), 4);
            due("hooks", x.hook(1), 1);
        }
        x.guest(3, 3);
        tell(x, 0, "go 1000 when guest=2;go 0;come 0;carry 0;");
        x.hours(2);
        x.looks(2, 0, 1);
        due("a third is out", x.of(2, 3), 2);
        yes("back", x.image(false));
        due("another third", x.guest(2, 2), 2);
        int[] other = {2, 2, 0, NONE, 0, 900000};
        for (int what = 0; what < 6; what++) {
            due("another third: of(2, " + what + ")", x.of(2, what), other[what]);
        }
        due("another third: not looked", x.sign(0, 4), NONE);
        yes("back", x.image(false));
        x.hours(1);
        yes("taken anew", x.image(true));
        x.hours(2);
        yes("back", x.image(false));
        due("hour", x.look(1), 2);
    }

    private static void fortySeven() {
        IsHeIn x = house(3, "go 1000 when guest>0;go 0;come 0;carry 1000 when guest=1;carry 0;");
        tell(x, 1, "sign in 5 out 6;sign in 5 out 6;");
        tell(x, 2, "clerk 1 from 2 for 3 at 1;");
        x.set(0, 0, 4);
        x.set(1, 0, 5);
        x.state(1);
        x.hours(2);
        x.room(0, 1, 1, 1);
        x.room(0, 1, 1, 1);
        x.caller(0, 1, 1);
        drawn = 1;
        draw();
        for (int i = 0; i < 2; i++) {
            draw();
            draw();
            draw();
        }
        draw();
        // in the second hour: 0 may go, 1 and 2 may come
        draw();
        draw();
        draw();
        int[] due = {3, 2, 6, 4, 4, 5, 2, drawn, 4, 2, 1, 2, 2, 1};
        tell(x, 0, "go 1;go 1;go 1;go 1;");
        for (int what = 0; what < 14; what++) {
            due("look(" + what + ")", x.look(what), due[what]);
        }
        due("look(14)", x.look(14), NONE);
        due("look(-1)", x.look(-1), NONE);
    }
}
