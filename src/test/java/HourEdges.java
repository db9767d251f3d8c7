/**
 * The edges of what the document says of GUESTS, HOURS, hooks, signs and THE BOOK, and of what stands written
 * (Terms 1 and 3, promises 1 to 7, 12 to 15, 23, 25, 26, 31, 39, 42, 47).
 */
public final class HourEdges extends Checks {
    public static void main(String[] args) {
        newObject();
        eachForItself();
        lastCall();
        states();
        drawsAreUnsigned();
        belowGo();
        belowFront();
        belowCarryAndStray();
        belowCome();
        surelyAndNever();
        guests();
        pearRainAge();
        hoursOfOneCall();
        lastHour();
        midnight();
        sinceCounts();
        nextHook();
        takenHooks();
        clerksOverMidnight();
        firstClerk();
        bookFills();
        bookLines();
        hangs();
        looksAtSigns();
        ofGuest();
        hooksAndSigns();
        bookIsRead();
        thieves();
        sawAndBy();
        rings();
        tellsOn();
        looks();
        finish();
    }

    private static void newObject() {
        about("1: Nobody");
        IsHeIn x = new IsHeIn();
        for (int what = 0; what <= 13; what++) {
            due("look(" + what + ")", x.look(what), 0);
        }
        due("of(0, 0)", x.of(0, 0), NO_SUCH);
        due("hook(0)", x.hook(0), NO_SUCH);
        due("sign(0, 0)", x.sign(0, 0), NO_SUCH);
        due("book(0, 0)", x.book(0, 0), NO_SUCH);
        due("thief()", x.thief(), NONE);
        due("swapped(0)", x.swapped(0), 0);
        due("swapped(1)", x.swapped(1), 0);
        due("swapped(2)", x.swapped(2), 0);
        due("by(0, 0)", x.by(0, 0), 0);
        due("by(1, 1)", x.by(1, 1), 0);
        due("tellsOn(0)", x.tellsOn(0), 0);
        due("saw(0, 0)", x.saw(0, 0), NONE);
        due("ring(0)", x.ring(0), NONE);
        due("hours(60)", x.hours(60), 0);
        due("no draw without guests", x.look(7), 0);
        due("hour", x.look(1), 60);
    }

    /** By turns: neither house knows of the other, though all is done with numbers of the same size. */
    private static void eachForItself() {
        about("1: Nobody: each object is a house for itself");
        IsHeIn a = house(2, "go 1000;come 0;carry 0;prior 700;");
        IsHeIn b = house(3, "go 0;prior 200;");
        tell(a, 1, "sign in 900 out 100;");
        a.room(1, 5, 50, 9);
        a.caller(0, 3, 4);
        a.set(0, 0, 7);
        a.image(true);
        due("hours of the first", a.hours(2), 2);
        yes("a look in the first", a.looks(0, 0, 1));
        due("hours of the second", b.hours(5), 0);
        int[] first = {2, 2, 3, 3, 7, 0, 2, a.look(7), 4, 1, 0, 1, 3, 1};
        int[] second = {3, 5, 0, 0, 0, 0, 0, b.look(7), 2, 0, 0, 0, 5, 0};
        for (int what = 0; what <= 13; what++) {
            due("the first: look(" + what + ")", a.look(what), first[what]);
            due("the second: look(" + what + ")", b.look(what), second[what]);
        }
        due("the law of the first", a.of(1, 11), 700);
        due("the law of the second", b.of(1, 11), 200);
        no("no image of the second", b.image(false));
        due("the tape of the first", a.feed(0, 0, 0, 0, 0), 20);
        no("and not of the second", b.end(1));
        due("its fault", a.text(0), NONE);
        due("and not of the second", b.fault(0), 0);
    }

    private static void lastCall() {
        about("An object is used for at most 512 calls");
        IsHeIn x = new IsHeIn();
        x.state(99);
        due("guest", x.guest(1, 1), 0);
        for (int call = 3; call <= 510; call++) {
            due("call " + call, x.look(7), 99);
        }
        due("call 511", x.hours(1), drawOf(stateAfter(99)) < 100 ? 1 : 0);
        yes("call 512", x.undo());
    }

    private static void states() {
        about("2: STATE is told: what it was (an int, 0 at first)");
        IsHeIn x = new IsHeIn();
        int was = 0;
        for (int v : new int[] {MAX, MIN, -1, 0, 1, 256, MIN}) {
            due("state(" + v + ")", x.state(v), was);
            due("look(7)", x.look(7), v);
            was = v;
        }
    }

    // ---- draws ----

    /** States from which draws are tried; some of them are below 0 when drawn. */
    private static int seed(int i) {
        return i == 0 ? 0 : i == 1 ? MAX : i == 2 ? MIN : i == 3 ? -1 : i * 0x1234567 + 89;
    }

    private static IsHeIn drawing(int state, String law) {
        IsHeIn x = house(2, law);
        x.state(state);
        x.hours(1);
        return x;
    }

    private static void drawsAreUnsigned() {
        about("Terms: it becomes 1664525 times itself + 1013904223 (ints, which wrap), then it is its highest 24 bits "
            + "(without sign) modulo m");
        int below = 0;
        for (int i = 0; i < 40; i++) {
            int one = stateAfter(seed(i));
            below += one < 0 ? 1 : 0;
            int draw = drawOf(one);
            IsHeIn x = house(1, "go " + draw + ";");
            x.state(seed(i));
            due("draw " + draw + " is not below itself", x.hours(1), 0);
            due("STATE", x.look(7), one);
            x = house(1, "go " + (draw + 1) + ";");
            x.state(seed(i));
            due("draw " + draw + " is below the next", x.hours(1), 1);
        }
        yes("some were below 0", below > 5 && below < 35);
    }

    private static void belowGo() {
        about("3: a DRAW of 1000: below go he goes");
        for (int i = 0; i < 20; i++) {
            int one = stateAfter(seed(i));
            int draw = drawOf(one);
            IsHeIn x = drawing(seed(i), "go " + draw + " when guest=0;go 0;");
            due("not below", x.look(2), 0);
            due("a draw for each guest, and no more", x.look(7), stateAfter(one));
            x = drawing(seed(i), "go " + (draw + 1) + " when guest=0;go 0;");
            due("below", x.look(2), 1);
        }
    }

    private static void belowFront() {
        about("3: by DOOR 0, if a DRAW of 1000 is below front, else 1");
        for (int i = 0; i < 20; i++) {
            int two = stateAfter(stateAfter(seed(i)));
            int draw = drawOf(two);
            due("not below", drawing(seed(i), "go 1000;front " + draw + ";").book(0, 3), 1);
            due("below", drawing(seed(i), "go 1000;front " + (draw + 1) + ";").book(0, 3), 0);
        }
    }

    private static void belowCarryAndStray() {
        about("3: then a DRAW of 1000: below carry he has his KEY; else a DRAW of 1000: below stray he hangs it on the "
            + "HOOK of the next GUEST");
        String go = "go 1000 when guest=0;go 0;";
        for (int i = 0; i < 20; i++) {
            int three = stateAfter(stateAfter(stateAfter(seed(i))));
            int four = stateAfter(three);
            int carry = drawOf(three);
            int stray = drawOf(four);
            IsHeIn x = drawing(seed(i), go + "carry " + carry + ";stray " + stray + ";");
            due("not below stray: his own", x.of(0, 3), 0);
            due("go, front, carry, stray, and go of the other", x.look(7), stateAfter(four));
            x = drawing(seed(i), go + "carry " + carry + ";stray " + (stray + 1) + ";");
            due("below stray: the next one's", x.of(0, 3), 1);
            x = drawing(seed(i), go + "carry " + (carry + 1) + ";stray " + (stray + 1) + ";");
            due("below carry: he has it", x.of(0, 3), NONE);
            due("no draw for stray", x.look(7), four);
        }
    }

    private static void belowCome() {
        about("3: Who is OUT: a DRAW of 1000: below come he comes: OUT is 0, by DOOR 0 or 1 likewise; "
            + "his KEY is none on the board");
        for (int i = 0; i < 20; i++) {
            int one = stateAfter(seed(i));
            int two = stateAfter(one);
            for (int more = 0; more < 2; more++) {
                IsHeIn x = house(1, "go 1000;carry 0;");
                x.hours(1);
                tell(x, 0, "come " + (drawOf(one) + more) + ";front " + (drawOf(two) + more) + ";");
                x.state(seed(i));
                due("hours(1)", x.hours(1), more);
                due("out", x.look(2), 1 - more);
                due("OUT", x.of(0, 2), 1 - more);
                due("his key", x.of(0, 3), more == 1 ? NONE : 0);
                due("STATE", x.look(7), more == 1 ? two : one);
                due("lines", x.look(6), 1 + more);
                if (more == 1) {
                    due("below front: door 0", x.book(1, 3), 0);
                }
            }
            IsHeIn x = house(1, "go 1000;");
            x.hours(1);
            tell(x, 0, "come 1000;front " + drawOf(two) + ";");
            x.state(seed(i));
            x.hours(1);
            due("not below front: door 1", x.book(1, 3), 1);
        }
    }

    private static void surelyAndNever() {
        about("2: held to 0 .. 1000; 3: a DRAW of 1000: below go");
        int first = 0;
        for (int i = 0; i < 20000 && drawOf(stateAfter(first)) != 0; i++) {
            first++;
        }
        int last = 0;
        for (int i = 0; i < 20000 && drawOf(stateAfter(last)) != 999; i++) {
            last++;
        }
        due("a draw of 0", drawOf(stateAfter(first)), 0);
        due("a draw of 999", drawOf(stateAfter(last)), 999);
        due("0 is not below 0", drawing(first, "go 0;").look(2), 0);
        due("0 is below 1", drawing(first, "go 1 when guest=0;go 0;").look(2), 1);
        due("999 is not below 999", drawing(last, "go 999 when guest=0;go 0;").look(2), 0);
        due("999 is below 1000", drawing(last, "go 1000 when guest=0;go 0;").look(2), 1);
        due("and below what is held to 1000", drawing(last, "go 9999 when guest=0;go 0;").look(2), 1);
    }

    // ---- guests and what is told of them ----

    private static void guests() {
        about("1: GUESTS 0 .. 11 as they come; FLOOR 0 .. 3, AGE 0 .. 99; 3: NONE if one can't be, or there are twelve");
        IsHeIn x = new IsHeIn();
        int[][] bad = {{-1, 0}, {4, 0}, {0, -1}, {0, 100}, {MIN, 0}, {MAX, 0}, {0, MIN}, {0, MAX}, {4, 100}};
        for (int[] b : bad) {
            due("guest(" + b[0] + ", " + b[1] + ")", x.guest(b[0], b[1]), NONE);
        }
        due("none came", x.look(0), 0);
        for (int g = 0; g < 12; g++) {
            due("guest", x.guest(g % 2 * 3, g % 2 * 99), g);
            due("how many", x.look(0), g + 1);
            due("floor", x.of(g, 0), g % 2 * 3);
            due("age", x.of(g, 1), g % 2 * 99);
            due("at first in", x.of(g, 2), 0);
            due("at first with his key", x.of(g, 3), NONE);
            due("since", x.of(g, 4), 0);
            due("his hook", x.hook(g), NONE);
        }
        due("the thirteenth", x.guest(0, 0), NONE);
        due("the thirteenth, wrong too", x.guest(4, 0), NONE);
        due("twelve", x.look(0), 12);
        due("no thirteenth", x.of(12, 0), NO_SUCH);
        due("the last one's floor", x.of(11, 0), 3);
        for (int[] b : new int[][] {{0, 0}, {0, 99}, {3, 0}, {3, 99}, {1, 1}, {2, 98}}) {
            due("guest(" + b[0] + ", " + b[1] + ")", new IsHeIn().guest(b[0], b[1]), 0);
        }
    }

    private static void pearRainAge() {
        about("4: What 0 PEAR, 1 RAIN (who not asked), 2 AGE of GUEST who; PEAR 0 .. 20, RAIN 0 .. 9 (0 each at first)");
        int[] most = {20, 9, 99};
        IsHeIn x = house(12);
        for (int what = 0; what < 3; what++) {
            for (int v : new int[] {1, most[what], 0, most[what] - 1}) {
                yes("set(" + what + ", 11, " + v + ")", x.set(what, 11, v));
                yes("the same again", x.set(what, 11, v));
                for (int bad : new int[] {-1, most[what] + 1, MIN, MAX}) {
                    no("set(" + what + ", 11, " + bad + ")", x.set(what, 11, bad));
                }
                due("it is", what == 2 ? x.of(11, 1) : x.look(4 + what), v);
            }
        }
        for (int who : new int[] {-1, 12, MIN, MAX}) {
            no("age of " + who, x.set(2, who, 5));
            yes("pear, who not asked", x.set(0, who, 5));
            yes("rain, who not asked", x.set(1, who, 5));
        }
        for (int what : new int[] {-1, 3, MIN, MAX}) {
            no("set(" + what + ", 0, 0)", x.set(what, 0, 0));
        }
        due("pear", x.look(4), 5);
        due("rain", x.look(5), 5);
        due("age of the first stays", x.of(0, 1), 0);
        IsHeIn y = new IsHeIn();
        yes("pear without guests", y.set(0, 0, 20));
        yes("rain without guests", y.set(1, 0, 9));
        no("age without guests", y.set(2, 0, 9));
    }

    // ---- hours ----

    private static void hoursOfOneCall() {
        about("7: HOURS go by (1 .. 60): how many went or came. NONE, and nothing is done, if one can't be");
        IsHeIn x = house(3, "go 1000;come 1000;");
        for (int n : new int[] {0, -1, 61, 62, MIN, MAX}) {
            due("hours(" + n + ")", x.hours(n), NONE);
        }
        due("hour", x.look(1), 0);
        due("nothing was drawn", x.look(7), 0);
        due("the least", x.hours(1), 3);
        due("hour", x.look(1), 1);
        due("the most", x.hours(60), 180);
        due("hour", x.look(1), 61);
        due("all are out", x.look(2), 7);
    }

    private static IsHeIn atHour(IsHeIn x, int hour) {
        for (int left = hour - x.look(1); left > 0; left -= 60) {
            x.hours(Math.min(left, 60));
        }
        return x;
    }

    private static void lastHour() {
        about("1: HOUR 0 .. 9999; 7: NONE, and nothing is done, if HOUR would be above 9999");
        IsHeIn x = atHour(house(1, "go 0;"), 9950);
        due("hour", x.look(1), 9950);
        int state = x.look(7);
        due("to 10010", x.hours(60), NONE);
        due("to 10000", x.hours(50), NONE);
        due("hour stays", x.look(1), 9950);
        due("nothing was drawn", x.look(7), state);
        due("to 9999", x.hours(49), 0);
        due("hour", x.look(1), 9999);
        due("no more", x.hours(1), NONE);
        due("no more", x.hours(60), NONE);
        due("hour stays", x.look(1), 9999);
        tell(x, 0, "go clock;come day;carry since;");
        due("the last clock", x.of(0, 6), 15);
        due("the last day", x.of(0, 7), 416);
        due("the most since", x.of(0, 8), 999);
        IsHeIn y = atHour(house(1, "go 1000 when day=416 and clock=14;go 0;"), 9998);
        due("nobody went before", y.look(6), 0);
        due("the last hour goes by", y.hours(1), 1);
        due("its number", y.book(0, 0), 9998);
        due("the last hour is full", y.hours(1), NONE);
        yes("but not what goes without hours", y.set(0, 0, 1));
    }

    private static void midnight() {
        about("1: CLOCK: HOUR modulo 24; DAY: HOUR by 24");
        for (int hour : new int[] {0, 1, 22, 23, 24, 25, 47, 48, 71, 72, 239, 240}) {
            IsHeIn x = atHour(house(1, "go 0;"), hour);
            tell(x, 0, "go clock;come day;");
            due("clock at " + hour, x.of(0, 6), hour % 24);
            due("day at " + hour, x.of(0, 7), hour / 24);
        }
        IsHeIn x = house(1, "go 1000 when clock=23;go 0;come 1000 when clock=0 and day=1;come 0;");
        due("until 23", x.hours(23), 0);
        due("at 23", x.hours(1), 1);
        due("HOUR of the line", x.book(0, 0), 23);
        due("at 0 of the next day", x.hours(1), 1);
        due("HOUR of the line", x.book(1, 0), 24);
    }

    private static void sinceCounts() {
        about("2: since: hours since he last went or came (0 at first; 999 at most); 3: Of whom neither happened since is "
            + "one more; else 0");
        IsHeIn x = house(2, "go 1000 when clock=2 and day=0 and guest=0;go 0;come 1000 when clock=5 and day=0;come 0;");
        int[] since = {0, 1, 2, 0, 1, 2, 0, 1};
        for (int hour = 0; hour < since.length; hour++) {
            due("since at " + hour, x.of(0, 4), since[hour]);
            due("since of who stays", x.of(1, 4), hour);
            x.hours(1);
        }
        atHour(x, 998);
        due("998", x.of(1, 4), 998);
        due("since he came", x.of(0, 4), 992);
        x.hours(1);
        due("999", x.of(1, 4), 999);
        x.hours(1);
        due("999 at most", x.of(1, 4), 999);
        due("since he came", x.of(0, 4), 994);
        x.hours(60);
        due("999 at most", x.of(1, 4), 999);
        due("999 at most", x.of(0, 4), 999);
        tell(x, 0, "go 1000;carry 1000;");
        x.hours(1);
        due("0 when he goes", x.of(1, 4), 0);
        tell(x, 0, "come 0;");
        x.hours(1);
        yes("by hand", x.hang(0, 0));
        due("a hanging is no going", x.of(0, 4), 1);
    }

    // ---- hooks in an hour ----

    private static void nextHook() {
        about("3: on the HOOK of the next GUEST (behind the last one the first)");
        for (int guests : new int[] {1, 2, 3, 11, 12}) {
            for (int g = 0; g < guests; g++) {
                IsHeIn x = house(guests, "go 1000 when guest=" + g + ";go 0;carry 0;stray 1000;");
                x.hours(1);
                due("key of " + g + " of " + guests, x.of(g, 3), (g + 1) % guests);
            }
            IsHeIn x = house(guests, "go 1000;carry 0;stray 1000;come 0;");
            x.hours(1);
            due("all stray, all hooks have a key", x.look(3), (1 << guests) - 1);
            due("a ring of all", x.ring(0), guests == 1 ? 0 : guests);
        }
    }

    private static void takenHooks() {
        about("3: if there is none, else on his own; if that has one, he has it");
        String two = "go 1000 when clock=guest;go 0;come 0;carry 0;";
        IsHeIn x = house(3, "go 1000 when clock=2-guest;go 0;come 0;carry 0;stray 1000 when guest<2;stray 0;");
        x.hours(1);
        due("2 on his own", x.of(2, 3), 2);
        x.hours(1);
        due("1 finds 2 taken: his own", x.of(1, 3), 1);
        x.hours(1);
        due("0 finds 1 taken: his own", x.of(0, 3), 0);
        IsHeIn y = house(2, two + "stray 1000 when guest=0;stray 0;");
        y.hours(2);
        due("0 on 1", y.of(0, 3), 1);
        due("1 finds his own taken: he has it", y.of(1, 3), NONE);
        due("and is out", y.look(2), 3);
        IsHeIn z = house(3, "go 1000 when clock=0 and guest<2;go 1000 when clock=1;go 0;come 0;carry 0;stray 0;");
        z.hours(1);
        yes("1 to 2", z.hang(1, 2));
        tell(z, 0, "go 1000;come 0;carry 0;stray 1000;");
        z.hours(1);
        due("2 finds 0 and his own taken: he has it", z.of(2, 3), NONE);
        due("the others stay", z.look(3), 5);
        IsHeIn w = house(1, "go 1000;carry 0;stray 1000;");
        w.hours(1);
        due("alone: the next one is himself", w.of(0, 3), 0);
    }

    // ---- clerks and the book ----

    private static void clerksOverMidnight() {
        about("2: from CLOCK for N, over midnight, too; 3: that have that CLOCK and DOOR");
        IsHeIn x = house(2, "go 1000;come 1000;front 1000 when guest=0;front 0;carry 1000;");
        good(x, 2, "clerk 2 from 22 for 4 at 1;clerk 1 from 23 for 2 at 0;", 2);
        x.hours(48);
        for (int hour = 0; hour < 48; hour++) {
            int clock = hour % 24;
            due("door 0 at " + hour, x.book(2 * hour, 4), clock == 23 || clock == 0 ? 1 : NONE);
            due("door 1 at " + hour, x.book(2 * hour + 1, 4), clock >= 22 || clock <= 1 ? 2 : NONE);
        }
    }

    private static void firstClerk() {
        about("3: of SHIFTS' lines that have that CLOCK and DOOR the first one's (none: NONE)");
        IsHeIn x = house(2, "go 1000;come 1000;front 1000 when guest=0;front 0;carry 1000;");
        good(x, 2, "clerk 3 from 1 for 1 at 0;clerk 0 from 0 for 2 at 0;clerk 1 from 0 for 24 at 0;"
            + "clerk 2 from 2 for 1 at 1;", 4);
        x.hours(3);
        int[] first = {0, 3, 1};
        int[] second = {NONE, NONE, 2};
        for (int hour = 0; hour < 3; hour++) {
            due("door 0", x.book(2 * hour, 4), first[hour]);
            due("door 1", x.book(2 * hour + 1, 4), second[hour]);
        }
        good(x, 2, times(11, "clerk 1 from 4 for 24 at 1;") + "clerk 2 from 3 for 1 at 0;", 12);
        x.hours(1);
        due("the twelfth line's", x.book(6, 4), 2);
        due("the first line's", x.book(7, 4), 1);
    }

    private static void bookFills() {
        about("3: THE BOOK (150 lines; no more then)");
        IsHeIn x = house(1, "go 1000;come 1000;front 0;carry 0;");
        x.hours(60);
        x.hours(60);
        x.hours(29);
        due("149", x.look(6), 149);
        due("the one behind the last", x.book(149, 0), NO_SUCH);
        x.hours(1);
        due("150", x.look(6), 150);
        due("the last", x.book(149, 0), 149);
        due("it goes on", x.hours(1), 1);
        due("150", x.look(6), 150);
        due("the last stays", x.book(149, 0), 149);
        due("no more", x.book(150, 0), NO_SUCH);
        due("he is out", x.look(2), 1);
        due("went", x.by(1, 0), 75);
        due("came", x.by(1, 1), 75);
        due("saw", x.saw(0, 1), 150);
        IsHeIn y = house(2, "go 1000;come 1000;carry 1000;");
        y.hours(60);
        y.hours(15);
        due("150", y.look(6), 150);
        yes("hang, though no line is left", y.hang(0, 0));
        due("it hangs", y.hook(0), 0);
        due("no line of it", y.look(6), 150);
        due("the last is a going", y.book(149, 1), 0);
        IsHeIn z = house(1, "go 1000;come 1000;carry 1000;");
        z.hours(60);
        z.hours(60);
        z.hours(29);
        yes("hang with the last line", z.hang(0, 0));
        due("150", z.look(6), 150);
        due("by hand", z.book(149, 1), 2);
        due("he comes", z.hours(1), 1);
        due("no line of it", z.book(149, 1), 2);
    }

    private static void bookLines() {
        about("3: HOUR, what (0 went, 1 came, 2 hung by hand), GUEST, DOOR (2: the HOOK), CLERK (2: NONE)");
        IsHeIn x = house(12, "go 1000 when guest=11;go 0;come 1000 when clock=1;come 0;carry 1000;front 0;");
        good(x, 2, "clerk 3 from 0 for 24 at 1;clerk 0 from 0 for 24 at 0;", 2);
        x.hours(1);
        yes("hang", x.hang(11, 0));
        yes("hang", x.hang(11, 11));
        x.hours(1);
        int[][] lines = {{0, 0, 11, 1, 3}, {1, 2, 11, 0, NONE}, {1, 2, 11, 11, NONE}, {1, 1, 11, 1, 3}};
        due("lines", x.look(6), lines.length);
        for (int i = 0; i < lines.length; i++) {
            for (int what = 0; what < 5; what++) {
                due("book(" + i + ", " + what + ")", x.book(i, what), lines[i][what]);
            }
        }
    }

    private static void hangs() {
        about("3: To HANG a KEY by hand: of a GUEST who is OUT on a HOOK that has none (from where it was)");
        IsHeIn x = house(12, "go 1000 when guest=0;go 1000 when guest=11;go 0;come 0;carry 1000;");
        no("nobody is out", x.hang(0, 0));
        x.hours(1);
        for (int bad : new int[] {-1, 12, MIN, MAX}) {
            no("guest " + bad, x.hang(bad, 0));
            no("hook " + bad, x.hang(0, bad));
        }
        no("who is in", x.hang(1, 1));
        no("who is in", x.hang(10, 0));
        due("no line of it", x.look(6), 2);
        due("nothing to undo of it", x.look(12), 1);
        yes("0 to the last", x.hang(0, 11));
        no("a hook with a key", x.hang(11, 11));
        no("the hook where it hangs", x.hang(0, 11));
        yes("11 to the first", x.hang(11, 0));
        no("a hook with a key", x.hang(0, 0));
        yes("from hook to hook", x.hang(0, 5));
        due("where it was is none", x.hook(11), NONE);
        due("where it is", x.hook(5), 0);
        yes("the hook that is free now", x.hang(11, 11));
        due("hooks", x.look(3), 1 << 11 | 1 << 5);
        due("since stays", x.of(0, 4), 0);
        due("an hour and four hangings", x.look(12), 5);
    }

    private static void looksAtSigns() {
        about("6: true; false if one can't be (seen 0, 1), or it is so; 1: not looked (at first), seen, not seen");
        IsHeIn x = house(12);
        no("no sign", x.looks(0, 0, 1));
        good(x, 1, times(6, "sign in 1 out 2;"), 6);
        for (int g : new int[] {0, 11}) {
            for (int s : new int[] {0, 5}) {
                due("at first", x.sign(s, 2 + g), NONE);
                no("not looked, as it is", x.looks(g, s, NONE));
                for (int seen : new int[] {1, 0, 1, NONE, 0, NONE}) {
                    yes("looks", x.looks(g, s, seen));
                    due("it is", x.sign(s, 2 + g), seen);
                    no("as it is", x.looks(g, s, seen));
                }
                for (int seen : new int[] {-2, 2, MIN, MAX}) {
                    no("seen " + seen, x.looks(g, s, seen));
                }
                due("it is", x.sign(s, 2 + g), NONE);
            }
        }
        for (int bad : new int[] {-1, MIN, MAX}) {
            no("guest " + bad, x.looks(bad, 0, 1));
            no("sign " + bad, x.looks(0, bad, 1));
        }
        no("guest 12", x.looks(12, 0, 1));
        no("sign 6", x.looks(0, 6, 1));
        good(x, 1, "sign in 1 out 2;", 1);
        no("sign 1 of one", x.looks(0, 1, 1));
    }

    // ---- what stands written ----

    private static void ofGuest() {
        about("12: NONE - 1 if there is none such, or another what");
        IsHeIn x = house(12);
        for (int g : new int[] {0, 11}) {
            int[] due = {g % 4, 10 * g % 100, 0, NONE, 0, 900000, 100, 200, 300, 0, 500, 900};
            for (int what = 0; what < due.length; what++) {
                due("of(" + g + ", " + what + ")", x.of(g, what), due[what]);
            }
            for (int what : new int[] {-1, 12, MIN, MAX}) {
                due("of(" + g + ", " + what + ")", x.of(g, what), NO_SUCH);
            }
        }
        for (int g : new int[] {-1, 12, MIN, MAX}) {
            for (int what = -1; what <= 12; what++) {
                due("of(" + g + ", " + what + ")", x.of(g, what), NO_SUCH);
            }
        }
        due("one behind the last of few", house(3).of(3, 0), NO_SUCH);
        due("the last of few", house(3).of(2, 0), 2);
    }

    private static void hooksAndSigns() {
        about("13: Whose KEY is on a HOOK; NONE: none; NONE - 1 if there is no such HOOK");
        IsHeIn x = hung(11, NONE, NONE, NONE, NONE, NONE, NONE, NONE, NONE, NONE, NONE, 0);
        due("hook(0)", x.hook(0), 11);
        due("hook(11)", x.hook(11), 0);
        due("hook(1)", x.hook(1), NONE);
        due("hook(10)", x.hook(10), NONE);
        for (int i : new int[] {-2, -1, 12, MIN, MAX}) {
            due("hook(" + i + ")", x.hook(i), NO_SUCH);
        }
        due("behind the last of few", house(3).hook(3), NO_SUCH);
        due("the last of few", house(3).hook(2), NONE);
        about("14: NONE - 1 if there is none such, or another what");
        good(x, 1, "sign in 1 out 2;sign in 3 out 4;sign in 5 out 6;sign in 7 out 8;sign in 9 out 10;sign in 11 out 12;", 6);
        yes("looks", x.looks(0, 5, 1));
        yes("looks", x.looks(11, 5, 0));
        int[] last = {11, 12, 1, NONE};
        for (int what = 0; what < 4; what++) {
            due("sign(5, " + what + ")", x.sign(5, what), last[what]);
        }
        due("sign(5, 13): of the last guest", x.sign(5, 13), 0);
        for (int what : new int[] {-1, -2, 14, MIN, MAX, MIN + 1, MIN + 2}) {
            due("sign(5, " + what + ")", x.sign(5, what), NO_SUCH);
        }
        for (int i : new int[] {-1, 6, MIN, MAX}) {
            for (int what : new int[] {-1, 0, 1, 2, 13, 14}) {
                due("sign(" + i + ", " + what + ")", x.sign(i, what), NO_SUCH);
            }
        }
        IsHeIn y = house(0);
        good(y, 1, "sign in 1 out 2;", 1);
        due("no guest: sign(0, 2)", y.sign(0, 2), NO_SUCH);
        due("no guest: sign(0, 1)", y.sign(0, 1), 2);
        y.guest(0, 0);
        due("a guest who comes later: not looked", y.sign(0, 2), NONE);
    }

    private static void bookIsRead() {
        about("15: Of line i of THE BOOK; NONE - 1 if there is none such, or another what");
        IsHeIn x = house(1, "go 1000;come 1000;front 0;carry 0;");
        due("no line", x.book(0, 0), NO_SUCH);
        x.hours(2);
        int[][] lines = {{0, 0, 0, 1, NONE}, {1, 1, 0, 1, NONE}};
        for (int i : new int[] {0, 1}) {
            for (int what = 0; what < 5; what++) {
                due("book(" + i + ", " + what + ")", x.book(i, what), lines[i][what]);
            }
            for (int what : new int[] {-1, 5, MIN, MAX}) {
                due("book(" + i + ", " + what + ")", x.book(i, what), NO_SUCH);
            }
        }
        for (int i : new int[] {-1, 2, 150, MIN, MAX}) {
            for (int what = -1; what <= 5; what++) {
                due("book(" + i + ", " + what + ")", x.book(i, what), NO_SUCH);
            }
        }
    }

    private static void thieves() {
        about("23: THIEF: the GUEST who has his KEY, is OUT and has been so longest (of several the least); NONE if none");
        due("nobody", new IsHeIn().thief(), NONE);
        due("all in, with their keys", house(12).thief(), NONE);
        due("all out, no key", hung(0, 1, 2).thief(), NONE);
        due("one of them", hung(0, NONE, 2).thief(), 1);
        due("the first", hung(NONE, 1, 2).thief(), 0);
        due("of all the least", hung(NONE, NONE, NONE).thief(), 0);
        due("of several the least", hung(0, NONE, NONE).thief(), 1);
        IsHeIn x = house(12, "go 1000 when guest=11 and clock=0;go 1000 when guest>9 and clock=1;go 0;come 0;carry 1000;");
        x.hours(1);
        due("the last guest", x.thief(), 11);
        x.hours(1);
        due("the last guest, longest", x.thief(), 11);
        atHour(x, 1000);
        due("999 and 998", x.thief(), 11);
        x.hours(1);
        due("since is 999 at most: of several the least", x.thief(), 10);
    }

    private static void sawAndBy() {
        about("25: what 0 with a CLERK, 1 without. NONE if there is no such GUEST, or another what");
        IsHeIn x = house(12, "go 1000 when guest=11;go 0;come 1000;front 1000;carry 1000;");
        good(x, 2, "clerk 0 from 1 for 2 at 0;", 1);
        for (int what = 0; what < 2; what++) {
            due("none yet", x.saw(11, what), 0);
        }
        x.hours(1);
        yes("by hand", x.hang(11, 3));
        due("with", x.saw(11, 0), 0);
        due("without, and the hanging not counted", x.saw(11, 1), 1);
        x.hours(3);
        due("with: clerk 0 is a clerk", x.saw(11, 0), 2);
        due("without", x.saw(11, 1), 2);
        due("another one", x.saw(0, 0) + x.saw(0, 1), 0);
        for (int bad : new int[] {-1, 12, MIN, MAX}) {
            due("saw(" + bad + ", 0)", x.saw(bad, 0), NONE);
        }
        for (int bad : new int[] {-1, 2, MIN, MAX}) {
            due("saw(11, " + bad + ")", x.saw(11, bad), NONE);
        }
        about("26: NONE if there is no such DOOR, or another what");
        IsHeIn y = house(3, "go 1000;come 1000 when guest=0;come 0;front 1000 when guest<2;front 0;carry 1000;");
        y.hours(2);
        yes("by hand, on hook 0", y.hang(1, 0));
        yes("by hand, on hook 1", y.hang(2, 1));
        due("went by 0", y.by(0, 0), 2);
        due("came by 0", y.by(0, 1), 1);
        due("went by 1", y.by(1, 0), 1);
        due("came by 1", y.by(1, 1), 0);
        due("by(0, 0)", x.by(0, 0), 2);
        due("by(0, 1)", x.by(0, 1), 2);
        due("by(1, 0)", x.by(1, 0), 0);
        due("by(1, 1)", x.by(1, 1), 0);
        for (int bad : new int[] {-1, 2, 3, MIN, MAX}) {
            due("by(" + bad + ", 0)", x.by(bad, 0), NONE);
            due("by(0, " + bad + ")", x.by(0, bad), NONE);
        }
    }

    private static void checkRings(IsHeIn x, int hooks, int hands, int rings) {
        due("swapped(0)", x.swapped(0), hooks);
        due("swapped(1)", x.swapped(1), hands);
        due("swapped(2)", x.swapped(2), rings);
    }

    private static void rings() {
        about("31: how many KEYS are in the ring in which his is (0: in none); NONE if there is no such GUEST");
        IsHeIn x = hung(1, 0, 3, 2, 5, 4, 7, 6, 9, 8, 11, 10);
        for (int g = 0; g < 12; g++) {
            due("ring(" + g + ")", x.ring(g), 2);
        }
        for (int bad : new int[] {-1, 12, MIN, MAX}) {
            due("ring(" + bad + ")", x.ring(bad), NONE);
        }
        about("39: HOOKS with a KEY that is another one's; HANDS: as many as hang wrong, and one more for each ring");
        checkRings(x, 4095, 18, 6);
        for (int bad : new int[] {-1, 3, MIN, MAX}) {
            due("swapped(" + bad + ")", x.swapped(bad), NONE);
        }
        checkRings(hung(0, 1, 2, 3, 4, 5, 6, 7, 8, 9, 10, 11), 0, 0, 0);
        checkRings(hung(1, 2, 3, 4, 5, 6, 7, 8, 9, 10, 11, 0), 4095, 13, 1);
        checkRings(hung(1, 2, 3, 4, 5, 6, 7, 8, 9, 10, 11, NONE), 4094, 11, 0);
        checkRings(hung(NONE, NONE), 0, 0, 0);
        checkRings(hung(0), 0, 0, 0);
        IsHeIn y = hung(1, 2, 0, 3, 5, NONE, 4);
        int[] rings = {3, 3, 3, 0, 0, 0, 0};
        for (int g = 0; g < 7; g++) {
            due("ring(" + g + ")", y.ring(g), rings[g]);
        }
        checkRings(y, 7 + 16 + 32, 6, 1);
    }

    private static void tellsOn() {
        about("42: GUESTS who are OUT and whose last going that CLERK SAW (a set); NONE if there is no such CLERK (0 .. 3)");
        IsHeIn x = house(12, "go 1000 when guest=0;go 1000 when guest=11;go 0;come 1000 when guest=0;come 0;front 1000;"
            + "carry 1000;");
        good(x, 2, "clerk 0 from 0 for 1 at 0;clerk 3 from 2 for 1 at 0;", 2);
        x.hours(1);
        due("tellsOn(0)", x.tellsOn(0), 1 | 1 << 11);
        due("tellsOn(3)", x.tellsOn(3), 0);
        x.hours(1);
        due("who came is no more in it", x.tellsOn(0), 1 << 11);
        x.hours(1);
        due("his last going", x.tellsOn(3), 1);
        due("tellsOn(0)", x.tellsOn(0), 1 << 11);
        for (int bad : new int[] {-1, 4, MIN, MAX}) {
            due("tellsOn(" + bad + ")", x.tellsOn(bad), NONE);
        }
        x.hours(2);
        for (int clerk = 0; clerk < 4; clerk++) {
            due("a going without a clerk is nobody's", x.tellsOn(clerk) & 1, 0);
        }
        IsHeIn y = house(2, "go 1000 when guest=0;go 0;come 1000;front 1000;carry 1000;");
        good(y, 2, "clerk 2 from 0 for 24 at 0;", 1);
        y.hours(60);
        y.hours(60);
        y.hours(30);
        due("full", y.look(6), 150);
        tell(y, 0, "go 1000;come 0;front 1000;");
        y.hours(1);
        due("both are out", y.look(2), 3);
        due("by THE BOOK alone, which is full", y.tellsOn(2), 1);
        for (int clerk : new int[] {0, 1, 3}) {
            due("who has no line is nobody's", y.tellsOn(clerk), 0);
        }
    }

    private static void looks() {
        about("47: NONE for another what");
        IsHeIn x = house(12, "go 1000;carry 0;stray 0;");
        for (int what : new int[] {-1, 14, 15, MIN, MAX}) {
            due("look(" + what + ")", x.look(what), NONE);
        }
        x.hours(1);
        due("all are out", x.look(2), 4095);
        due("all hooks have a key", x.look(3), 4095);
    }
}
