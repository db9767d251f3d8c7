/** The edges of what the document says IN THOUGHT (Terms 4, promises 16 to 44, without those of HourEdges). */
public final class ThoughtEdges extends Checks {
    private static final int[] NO_GUESTS = {-2, -1, 12, MIN, MAX};

    public static void main(String[] args) {
        sureAtItsEnds();
        sureSignBySign();
        bySureOfEach();
        justBelow();
        byLawOfEach();
        next();
        say();
        many();
        span();
        spanOfTwelve();
        counted();
        visit();
        visitLate();
        visitDownwards();
        expect();
        lack();
        empty();
        callers();
        said();
        costs();
        looksInOrder();
        looksAtHalf();
        pair();
        busy();
        tagCost();
        tag();
        rooms();
        done();
        doneOfSeveral();
        knocks();
        fireTimes();
        fireOfSeveral();
        stands();
        standsOfSeveral();
        carries();
        away();
        awayLate();
        finish();
    }

    /** Twelve guests, for whom there is none such below 0 or above 11. */
    private static IsHeIn full(String law) {
        return house(12, law);
    }

    private static IsHeIn withSigns(int guests, String law, String signs) {
        IsHeIn x = house(guests, law);
        due("signs", tell(x, 1, signs) == NONE ? NONE : 0, 0);
        return x;
    }

    // ---- SURE, NEXT, SAY ----

    private static void sureAtItsEnds() {
        about("4: SURE: p is prior times 1000; p becomes a million times (p times a) by (p times a and (a million less p) "
            + "times b, added) (longs), downwards");
        int[] priors = {0, 1, 999, 1000};
        for (int in : new int[] {1, 999}) {
            for (int out : new int[] {1, 999}) {
                IsHeIn x = withSigns(4, "prior 0 when guest=0;prior 1 when guest=1;prior 999 when guest=2;prior 1000;",
                    "sign in " + in + " out " + out + ";");
                for (int g = 0; g < 4; g++) {
                    long p = priors[g] * 1000L;
                    due("not looked", x.of(g, 5), p);
                    x.looks(g, 0, 1);
                    due("seen", x.of(g, 5), MILLION * (p * in) / (p * in + (MILLION - p) * out));
                    x.looks(g, 0, 0);
                    due("not seen", x.of(g, 5),
                        MILLION * (p * (1000 - in)) / (p * (1000 - in) + (MILLION - p) * (1000 - out)));
                    x.looks(g, 0, NONE);
                    due("not looked again", x.of(g, 5), p);
                }
            }
        }
    }

    private static void sureSignBySign() {
        about("4: then SIGN by SIGN that was looked at, downwards");
        IsHeIn x = withSigns(1, "prior 333;", "sign in 7 out 5;sign in 11 out 13;sign in 999 out 998;sign in 500 out 501;"
            + "sign in 17 out 19;sign in 990 out 970;");
        int[][] n = {{7, 5}, {11, 13}, {999, 998}, {500, 501}, {17, 19}, {990, 970}};
        for (int looked = 0; looked < 64; looked += 3) {
            long p = 333000;
            for (int s = 5; s >= 0; s--) {
                x.looks(0, s, (looked >> s & 1) == 0 ? NONE : s % 2);
            }
            for (int s = 0; s < 6; s++) {
                long a = s % 2 == 1 ? n[s][0] : 1000 - n[s][0];
                long b = s % 2 == 1 ? n[s][1] : 1000 - n[s][1];
                p = (looked >> s & 1) == 0 ? p : MILLION * (p * a) / (p * a + (MILLION - p) * b);
            }
            due("SURE, looked at " + looked, x.of(0, 5), p);
        }
    }

    private static void bySureOfEach() {
        about("4: of GUESTS by SURE (by all SIGNS that were looked at)");
        IsHeIn x = withSigns(3, "prior 900 when guest=0;prior 500;", "sign in 800 out 100;sign in 300 out 600;");
        yes("looks", x.looks(0, 0, 0));
        yes("looks", x.looks(1, 0, 1));
        yes("looks", x.looks(1, 1, 0));
        yes("looks", x.looks(2, 1, 1));
        long[] p = {666666, 933332, 333333};
        for (int g = 0; g < 3; g++) {
            due("SURE of " + g, x.of(g, 5), p[g]);
        }
        due("MANY", x.many(0), 1);
        due("LIKELY", x.many(1), 2);
        due("PAIR", x.pair(2), p[0] * p[1] / MILLION);
        due("its b", x.pair(1), 1);
        due("EMPTY", x.empty(1), MILLION - p[1]);
        due("LACK", x.lack(1), 1);
        long others = (MILLION - p[1]) * (MILLION - p[2]) / MILLION;
        long one = p[1] * (MILLION - p[2]) / MILLION + (MILLION - p[1]) * p[2] / MILLION;
        due("COUNTED", x.counted(0, 1), MILLION * (p[0] * others) / (p[0] * others + (MILLION - p[0]) * one));
        x.room(0, 1, 1, 1);
        x.room(1, 1, 1, 1);
        x.room(2, 1, 1, 1);
        due("KNOCKS", x.knocks(0), 2);
        due("KNOCKS", x.knocks(2), 1);
        x.caller(1, 999, 999);
        due("COSTS", x.said(1), 66668 * 999 / MILLION);
        due("SAY", x.say(2, 1, 2), 0);
        due("SAY", x.say(2, 499, 999), 1);
        due("VISIT", x.visit(1, 1), p[1]);
        due("FIRE", x.fire(5, 10), 1);
    }

    private static void justBelow() {
        about("4: by a million, downwards; p thousands of a million at least (just below is below)");
        IsHeIn x = withSigns(2, "prior 900 when guest=0;prior 100;", "sign in 800 out 100;sign in 100 out 800;");
        yes("looks", x.looks(0, 0, 1));
        yes("looks", x.looks(1, 1, 1));
        due("SURE", x.of(0, 5), 986301);
        due("SURE", x.of(1, 5), 13698);
        due("MANY of 999999", x.many(0), 0);
        due("FIRE of 999999", x.fire(99, 0), 0);
        due("both floors", x.fire(99, 1), 2);
        yes("not looked", x.looks(1, 1, NONE));
        due("MANY of 1086301", x.many(0), 1);
        due("FIRE of 1086301", x.fire(99, 0), 1);
        x = withSigns(2, "prior 446 when guest=0;prior 713;", "sign in 300 out 600;");
        yes("looks", x.looks(0, 0, 1));
        due("SURE", x.of(0, 5), 287001);
        due("OUT by SURE: 999999", x.lack(1), 0);
        tell(x, 0, "prior 446 when guest=0;prior 712;");
        due("OUT by SURE: 1000999", x.lack(1), 1);
        x = house(2, "prior 963 when guest=0;prior 973;");
        checkSpan(x, 936, 2, 2);
        checkSpan(x, 937, 1, 2);
        x = house(2, "prior 999 when guest=0;prior 1;");
        checkSpan(x, 1, 1, 1);
    }

    private static void byLawOfEach() {
        about("4: go, come, carry of each GUEST by what THE LAW tells of him");
        String law = "go guest*100;come 1000-guest*100;carry 300+guest*guest-guest*11;front guest*91;prior 500;";
        IsHeIn x = full(law);
        due("EXPECT: 0 to 1000, and 1000", x.expect(), 6);
        due("CARRIES", x.carries(), 0);
        due("COST of a TAG", x.tagCost(999, 0, 0), carried() * 999 / 1000);
        int front = 0;
        int back = 0;
        for (int g = 0; g < 12; g++) {
            int go = Math.min(1000, g * 100);
            front += go * Math.min(1000, g * 91) / 1000;
            back += go - go * Math.min(1000, g * 91) / 1000;
        }
        due("STANDS", x.stands(0, 0), 24 * Math.max(front, back));
        due("VISIT of 0, who does not go", x.visit(0, 1), MILLION);
        due("VISIT of 10, who goes", x.visit(10, 1), 500000);
        due("VISIT of 0 again", x.visit(0, 0), 1);
        IsHeIn y = hung(NONE, NONE, NONE);
        tell(y, 0, "go 0;come guest*400;");
        for (int g : new int[] {2, 0, 1, 2}) {
            due("AWAY of " + g, y.away(g, 1), (1000 - g * 400) * 1000);
        }
        due("EXPECT", y.expect(), 1);
        due("BUSY", y.busy(1), 1);
        tell(y, 0, "come 1000 when guest=0 and clock=5;come 900 when guest>0 and clock=9;come 0;");
        due("BUSY", y.busy(0), 9);
        tell(y, 0, "come 1000 when clock=0;come 500 when clock=2;come 0;");
        due("BUSY: the first", y.busy(0), 0);
        tell(y, 0, "come 500 when clock=2;come 600 when clock=1;come 0;");
        due("BUSY: the second", y.busy(0), 1);
    }

    private static int carried() {
        int sum = 0;
        for (int g = 0; g < 12; g++) {
            sum += 300 + g * g - g * 11;
        }
        return sum;
    }

    private static void next() {
        about("16: NEXT: the SIGN; NONE if none is left, or there is no such GUEST; 4: of several the least SIGN");
        due("no guest, no sign", new IsHeIn().next(0), NONE);
        due("no sign", house(1).next(0), NONE);
        IsHeIn x = withSigns(12, "prior 500;", times(6, "sign in 9 out 7;"));
        for (int g : NO_GUESTS) {
            due("next(" + g + ")", x.next(g), NONE);
        }
        for (int g : new int[] {0, 11}) {
            for (int s = 0; s < 6; s++) {
                due("of the same ones the least", x.next(g), s);
                yes("looks", x.looks(g, s, s % 2));
            }
            due("none is left", x.next(g), NONE);
            yes("looks", x.looks(g, 3, NONE));
            due("one is left again", x.next(g), 3);
        }
        for (int prior : new int[] {0, 1000}) {
            IsHeIn y = withSigns(1, "prior " + prior + ";", "sign in 5 out 5;sign in 999 out 1;sign in 1 out 999;");
            due("none makes surer who is sure: the least", y.next(0), 0);
        }
        IsHeIn z = withSigns(1, "prior 500;", times(5, "sign in 5 out 5;") + "sign in 999 out 1;");
        due("the last one tells most", z.next(0), 5);
        z = withSigns(1, "prior 500;", "sign in 999 out 1;sign in 1 out 999;");
        due("each tells as much: the least", z.next(0), 0);
    }

    private static void say() {
        about("17: SAY to one whom a wrong in costs x, a wrong out y (0 .. 9999 each): 1, if not above; NONE if one can't be");
        IsHeIn x = full("prior 800 when guest=0;prior 0 when guest=1;prior 1000 when guest=2;prior 500;");
        int[][] says = {{0, 4, 1, 1}, {0, 5, 1, 0}, {0, 3, 1, 1}, {0, 0, 0, 1}, {0, 1, 0, 0}, {0, 0, 1, 1}, {0, 9996, 2499, 1},
            {0, 9997, 2499, 0}, {0, 9999, 9999, 1}, {0, 9999, 0, 0}, {0, 0, 9999, 1}, {1, 0, 0, 1}, {1, 1, 9999, 0},
            {1, 3000, 0, 0}, {1, 0, 9999, 1}, {2, 9999, 0, 1}, {2, 0, 3000, 1}, {2, 0, 0, 1}, {11, 9999, 9999, 1},
            {11, 9999, 9998, 0}, {11, 9998, 9999, 1}, {11, 3000, 3000, 1}};
        for (int[] s : says) {
            due("say(" + s[0] + ", " + s[1] + ", " + s[2] + ")", x.say(s[0], s[1], s[2]), s[3]);
        }
        for (int bad : new int[] {-1, 10000, MIN, MAX}) {
            due("x " + bad, x.say(0, bad, 0), NONE);
            due("y " + bad, x.say(0, 0, bad), NONE);
        }
        for (int g : NO_GUESTS) {
            due("say(" + g + ", 0, 0)", x.say(g, 0, 0), NONE);
        }
    }

    // ---- how many are in ----

    private static void checkMany(IsHeIn x, int sum, int likely, int chance) {
        due("many(0)", x.many(0), sum);
        due("many(1)", x.many(1), likely);
        due("many(2)", x.many(2), chance);
    }

    private static void many() {
        about("18: MANY what 0 the sum, 1 LIKELY, 2 its chance (a million at 0); of several the least; by a million, "
            + "downwards; NONE for another what");
        checkMany(new IsHeIn(), 0, 0, MILLION);
        checkMany(full("prior 0;"), 0, 0, MILLION);
        checkMany(full("prior 1000;"), 12, 12, MILLION);
        checkMany(house(1, "prior 500;"), 0, 0, 500000);
        checkMany(house(1, "prior 501;"), 0, 1, 501000);
        checkMany(house(2, "prior 500;"), 1, 1, 500000);
        checkMany(house(3, "prior 500;"), 1, 1, 375000);
        checkMany(house(1, "prior 999;"), 0, 1, 999000);
        checkMany(house(3, "prior 333;"), 0, 1, chance(3, 333, 1));
        checkMany(house(3, "prior 334;"), 1, 1, chance(3, 334, 1));
        checkMany(full("prior 999;"), 11, 12, chance(12, 999, 12));
        checkMany(full("prior 1;"), 0, 0, chance(12, 1, 0));
        for (int bad : new int[] {-1, 3, MIN, MAX}) {
            due("many(" + bad + ")", full("").many(bad), NONE);
            due("many(" + bad + ") without guests", new IsHeIn().many(bad), NONE);
        }
    }

    /** The chance that k of so many are in, each as sure as all, each step downwards. */
    private static int chance(int guests, int prior, int k) {
        long[] c = new long[guests + 2];
        c[1] = MILLION;
        for (int g = 0; g < guests; g++) {
            for (int i = guests + 1; i > 0; i--) {
                c[i] = c[i] * (1000 - prior) * 1000 / MILLION + c[i - 1] * prior * 1000 / MILLION;
            }
        }
        return (int) c[k + 1];
    }

    private static void checkSpan(IsHeIn x, int p, int a, int b) {
        due("span(" + p + ", 0)", x.span(p, 0), a);
        due("span(" + p + ", 1)", x.span(p, 1), b);
    }

    private static void span() {
        about("19: SPAN of p (0 .. 1000): p thousands of a million at least; of several the least a. NONE if p can't be, no "
            + "row has so much, or another what");
        IsHeIn none = new IsHeIn();
        checkSpan(none, 0, 0, 0);
        checkSpan(none, 1, 0, 0);
        checkSpan(none, 1000, 0, 0);
        IsHeIn one = house(1, "prior 500;");
        checkSpan(one, 0, 0, 0);
        checkSpan(one, 500, 0, 0);
        checkSpan(one, 501, 0, 1);
        checkSpan(one, 1000, 0, 1);
        IsHeIn x = house(3, "prior 500;");
        int[][] spans = {{0, 0, 0}, {124, 0, 0}, {125, 0, 0}, {126, 1, 1}, {375, 1, 1}, {376, 0, 1}, {500, 0, 1}, {501, 1, 2},
            {750, 1, 2}, {751, 0, 2}, {875, 0, 2}, {876, 0, 3}, {999, 0, 3}, {1000, 0, 3}};
        for (int[] s : spans) {
            checkSpan(x, s[0], s[1], s[2]);
        }
        for (int p : new int[] {-1, 1001, MIN, MAX}) {
            checkSpan(x, p, NONE, NONE);
            checkSpan(none, p, NONE, NONE);
        }
        for (int what : new int[] {-1, 2, MIN, MAX}) {
            due("span(500, " + what + ")", x.span(500, what), NONE);
        }
    }

    private static void spanOfTwelve() {
        about("4: SPAN: the shortest row of numbers from a to b; chances GUEST by GUEST, each downwards");
        checkSpan(full("prior 1000;"), 1, 12, 12);
        checkSpan(full("prior 1000;"), 1000, 12, 12);
        checkSpan(full("prior 1000;"), 0, 0, 0);
        checkSpan(full("prior 0;"), 1000, 0, 0);
        IsHeIn x = full("prior 333;");
        checkSpan(x, 1000, NONE, NONE);
        long all = 0;
        for (int k = 0; k <= 12; k++) {
            all += chance(12, 333, k);
        }
        yes("what was lost downwards", all < MILLION && all > 999000);
        checkSpan(x, 999, 0, spanTo(999));
    }

    /** To which number a row from 0 must go. */
    private static int spanTo(int p) {
        long sum = 0;
        for (int k = 0; k <= 12; k++) {
            sum += chance(12, 333, k);
            if (sum >= p * 1000L) {
                return k;
            }
        }
        return NONE;
    }

    private static void counted() {
        about("20: COUNTED c (0 .. 12); NONE if it can't be that c are in (both are 0), or one can't be");
        IsHeIn alone = house(1, "prior 500;");
        int[] ofOne = {0, MILLION, NONE};
        for (int c = 0; c < 3; c++) {
            due("alone: counted(0, " + c + ")", alone.counted(0, c), ofOne[c]);
        }
        tell(alone, 0, "prior 0;");
        due("surely out: none in", alone.counted(0, 0), 0);
        due("surely out: one in", alone.counted(0, 1), NONE);
        tell(alone, 0, "prior 1000;");
        due("surely in: none in", alone.counted(0, 0), NONE);
        due("surely in: one in", alone.counted(0, 1), MILLION);
        IsHeIn x = full("prior 500;");
        for (int g : new int[] {0, 11}) {
            due("none of twelve", x.counted(g, 0), 0);
            due("one of twelve", x.counted(g, 1), part(1));
            due("six of twelve", x.counted(g, 6), part(6));
            due("eleven of twelve", x.counted(g, 11), part(11));
            due("twelve of twelve", x.counted(g, 12), MILLION);
            for (int c : new int[] {-1, 13, MIN, MAX}) {
                due("counted(" + g + ", " + c + ")", x.counted(g, c), NONE);
            }
        }
        for (int g : NO_GUESTS) {
            due("counted(" + g + ", 6)", x.counted(g, 6), NONE);
        }
        due("twelve of eleven", house(11, "prior 500;").counted(10, 12), NONE);
        due("eleven of eleven", house(11, "prior 500;").counted(10, 11), MILLION);
        IsHeIn sure = house(3, "prior 1000 when guest=0;prior 0 when guest=1;prior 500;");
        due("in for sure", sure.counted(0, 1), MILLION);
        due("out for sure", sure.counted(1, 1), 0);
        due("who may be, if one is in", sure.counted(2, 1), 0);
        due("who may be, if two are in", sure.counted(2, 2), MILLION);
        due("it can't be that none is in", sure.counted(2, 0), NONE);
        due("it can't be that three are in", sure.counted(2, 3), NONE);
    }

    private static int part(int c) {
        long with = 500000L * chance(11, 500, c - 1);
        long without = 500000L * chance(11, 500, c);
        return (int) (MILLION * with / (with + without));
    }

    // ---- hours to come ----

    private static void checkVisit(IsHeIn x, String law, int k, int p) {
        tell(x, 0, law);
        due("visit(0, 0) by " + law, x.visit(0, 0), k);
        due("visit(0, 1) by " + law, x.visit(0, 1), p);
    }

    private static void visit() {
        about("21: the k 0 .. 23 with the greatest p_k (of several the least); that. NONE if one can't be, or another what");
        IsHeIn x = full("");
        checkVisit(x, "prior 500;go 0;come 0;", 0, 500000);
        checkVisit(x, "prior 0;go 0;come 0;", 0, 0);
        checkVisit(x, "prior 1000;go 0;come 1000;", 0, MILLION);
        checkVisit(x, "prior 500;go 0;come 1000 when clock=0;come 0;", 1, MILLION);
        checkVisit(x, "prior 500;go 0;come 1000 when clock=22;come 0;", 23, MILLION);
        checkVisit(x, "prior 500;go 0;come 1000 when clock=23;come 0;", 0, 500000);
        checkVisit(x, "prior 500;go 1000 when clock=1;go 0;come 1000 when clock=22;come 0;", 23, MILLION);
        checkVisit(x, "prior 1000;go 1000 when clock=1;go 0;come 1000 when clock=22;come 0;", 0, MILLION);
        for (int g : NO_GUESTS) {
            due("visit(" + g + ", 0)", x.visit(g, 0), NONE);
            due("visit(" + g + ", 1)", x.visit(g, 1), NONE);
        }
        for (int what : new int[] {-1, 2, MIN, MAX}) {
            due("visit(0, " + what + ")", x.visit(0, what), NONE);
        }
    }

    private static IsHeIn atHour(IsHeIn x, int hour) {
        for (int left = hour - x.look(1); left > 0; left -= 60) {
            x.hours(Math.min(left, 60));
        }
        return x;
    }

    private static void visitLate() {
        about("21: asked with that CLOCK, DAY, all else as now");
        IsHeIn x = atHour(house(1, "go 0;"), 23);
        checkVisit(x, "prior 500;go 0;come 1000 when clock=0 and day=1;come 0;", 2, MILLION);
        checkVisit(x, "prior 500;go 0;come 1000 when clock=0 and day=0;come 0;", 0, 500000);
        checkVisit(x, "prior 500;go 0;come 1000 when clock=23 and day=0;come 0;", 1, MILLION);
        checkVisit(x, "prior 500;go 0;come 1000 when clock=21 and day=1;come 0;", 23, MILLION);
        checkVisit(x, "prior 500;go 0;come 1000 when clock=22 and day=1;come 0;", 0, 500000);
        checkVisit(x, "prior 500;go 0;come 1000 when since>23;come 0;", 0, 500000);
        checkVisit(x, "prior 500;go 0;come 1000 when since=23 and clock=1;come 0;", 3, MILLION);
        atHour(x, 9999);
        checkVisit(x, "prior 500;go 0;come 1000 when clock=15 and day=416;come 0;", 1, MILLION);
        checkVisit(x, "prior 500;go 0;come 1000 when clock=23;come 0;", 9, MILLION);
        checkVisit(x, "prior 500;go 0;come 1000 when clock=0 and day=417;come 0;", 10, MILLION);
        due("the hour stays", x.look(1), 9999);
    }

    private static void visitDownwards() {
        about("4: p becomes p less p times go by 1000, and (a million less p) times come by 1000 more (each downwards)");
        IsHeIn x = withSigns(1, "prior 900;", "sign in 800 out 100;");
        x.looks(0, 0, 0);
        long p = MILLION * (900000L * 200) / (900000L * 200 + 100000L * 900);
        due("SURE", x.of(0, 5), p);
        long one = p - p * 333 / 1000 + (MILLION - p) * 777 / 1000;
        checkVisit(x, "prior 900;go 333 when clock=0;go 1000;come 777 when clock=0;come 0;", 1, (int) one);
        long two = one - one * 1 / 1000 + (MILLION - one) * 999 / 1000;
        checkVisit(x, "prior 900;go 333 when clock=0;go 1 when clock=1;go 1000;come 777 when clock=0;come 999 when clock=1;"
            + "come 0;", 2, (int) two);
    }

    private static void expect() {
        about("33: EXPECT: go of all who are in, come of all who are OUT, now, added, by 1000");
        due("nobody", new IsHeIn().expect(), 0);
        due("999", house(1, "go 999;come 1000;").expect(), 0);
        due("1000", house(1, "go 1000;come 0;").expect(), 1);
        due("999 and 999", house(2, "go 999;").expect(), 1);
        due("333 three times", house(3, "go 333;").expect(), 0);
        due("twelve", full("go 1000;come 0;").expect(), 12);
        IsHeIn x = hung(NONE, NONE, NONE);
        tell(x, 0, "go 1000;come 0;");
        due("all are out", x.expect(), 0);
        tell(x, 0, "go 0;come 334;");
        due("all are out", x.expect(), 1);
        tell(x, 0, "come 1000 when clock=1;come 0;");
        due("now", x.expect(), 3);
        tell(x, 0, "come 1000 when clock=23;come 500 when clock=0 and day=1;come 0;");
        int[] due = {3, 1, 0};
        atHour(x, 22);
        due("before", x.expect(), 0);
        for (int i = 0; i < 3; i++) {
            tell(x, 0, "come 0;");
            x.hours(1);
            tell(x, 0, "come 1000 when clock=23 and day=0;come 500 when clock=0 and day=1;come 0;");
            due("over midnight", x.expect(), due[i]);
        }
    }

    private static void checkLack(IsHeIn x, int hooks, int sure, int out) {
        due("lack(0)", x.lack(0), hooks);
        due("lack(1)", x.lack(1), sure);
        due("lack(2)", x.lack(2), out);
    }

    private static void lack() {
        about("34: LACK what 0 how many, 1 OUT by SURE, 2 OUT. NONE for another what");
        checkLack(new IsHeIn(), 0, 0, 0);
        checkLack(full("prior 0;"), 12, 12, 0);
        checkLack(full("prior 1000;"), 12, 0, 0);
        checkLack(full("prior 999;"), 12, 0, 0);
        checkLack(house(2, "prior 500;"), 2, 1, 0);
        checkLack(house(2, "prior 501;"), 2, 0, 0);
        IsHeIn x = hung(0, 1, 2);
        tell(x, 0, "prior 0;");
        checkLack(x, 0, 0, 0);
        x = hung(1, NONE, NONE);
        tell(x, 0, "prior 0 when guest=0;prior 500;");
        checkLack(x, 2, 1, 2);
        for (int what : new int[] {-1, 3, MIN, MAX}) {
            due("lack(" + what + ")", x.lack(what), NONE);
        }
    }

    private static void empty() {
        about("22: EMPTY, a FLOOR: of a million, that nobody of it is in by SURE; NONE if there is no such FLOOR");
        IsHeIn none = new IsHeIn();
        IsHeIn x = house(4, "prior 0 when floor=0;prior 1000 when floor=1;prior 1 when floor=2;prior 999;");
        int[] due = {MILLION, 0, 999000, 1000};
        for (int floor = 0; floor < 4; floor++) {
            due("nobody on it", none.empty(floor), MILLION);
            due("empty(" + floor + ")", x.empty(floor), due[floor]);
        }
        for (int floor : new int[] {-1, 4, MIN, MAX}) {
            due("empty(" + floor + ")", x.empty(floor), NONE);
            due("empty(" + floor + ")", none.empty(floor), NONE);
        }
        about("4: GUEST by GUEST of it times (a million less p) by a million, downwards each time");
        IsHeIn y = new IsHeIn();
        long chance = MILLION;
        for (int g = 0; g < 12; g++) {
            y.guest(3, 0);
            chance = chance * 667000 / MILLION;
        }
        tell(y, 0, "prior 333;");
        due("twelve on one floor", y.empty(3), chance);
        due("nobody on the others", y.empty(2), MILLION);
    }

    // ---- callers ----

    private static void callers() {
        about("27: A CALLER (guest NONE: none is then): how many; NONE if one can't be, or there are eight; (0 .. 999 each)");
        IsHeIn none = new IsHeIn();
        due("no guest", none.caller(0, 0, 0), NONE);
        due("none of none", none.caller(NONE, 0, 0), 0);
        IsHeIn x = full("");
        for (int bad : new int[] {-1, 1000, MIN, MAX}) {
            due("x " + bad, x.caller(0, bad, 0), NONE);
            due("y " + bad, x.caller(0, 0, bad), NONE);
        }
        for (int g : new int[] {-2, 12, MIN, MAX}) {
            due("caller(" + g + ", 0, 0)", x.caller(g, 0, 0), NONE);
        }
        due("none of them", x.look(13), 0);
        int[][] good = {{0, 0, 0}, {11, 999, 999}, {0, 0, 999}, {0, 999, 0}, {11, 1, 1}, {0, 998, 998}, {5, 5, 5}, {0, 0, 0}};
        for (int i = 0; i < 8; i++) {
            due("caller", x.caller(good[i][0], good[i][1], good[i][2]), i + 1);
            due("look(13)", x.look(13), i + 1);
        }
        due("the ninth", x.caller(0, 0, 0), NONE);
        due("eight", x.look(13), 8);
        due("none is then", x.caller(NONE, 0, 0), 0);
        due("look(13)", x.look(13), 0);
        due("the first again", x.caller(11, 999, 999), 1);
        due("none is then", x.caller(NONE, 999, 999), 0);
        due("look(13)", x.look(13), 0);
        due("one again", x.caller(3, 7, 7), 1);
        due("none is then, whatever the costs", x.caller(NONE, -1, MIN), 0);
        due("look(13)", x.look(13), 0);
    }

    private static void said() {
        about("28: What 0 SAID (a set), 1 COSTS. NONE for another what");
        IsHeIn x = full("prior 800 when guest=0;prior 333;");
        due("nobody asks: said(0)", x.said(0), 0);
        due("nobody asks: said(1)", x.said(1), 0);
        for (int i = 0; i < 8; i++) {
            x.caller(0, 4, 1);
        }
        due("just not above, eight times", x.said(0), 255);
        due("200000 times 4 by a million, eight times", x.said(1), 0);
        x.caller(NONE, 0, 0);
        for (int i = 0; i < 7; i++) {
            x.caller(0, 5, 1);
        }
        x.caller(0, 999, 999);
        due("the eighth alone", x.said(0), 128);
        due("800000 times 1 seven times, 200000 times 999", x.said(1), 199);
        for (int what : new int[] {-1, 2, MIN, MAX}) {
            due("said(" + what + ")", x.said(what), NONE);
        }
    }

    private static void costs() {
        about("4: COSTS: of each (a million less SURE) times x, if in is said, else SURE times y, by a million, downwards; "
            + "all added");
        IsHeIn x = full("prior 333;");
        int[][] callers = {{0, 0}, {999, 0}, {0, 999}, {1, 999}, {999, 498}, {999, 499}, {2, 2}, {9, 3}};
        for (int[] c : callers) {
            x.caller(11, c[0], c[1]);
        }
        due("in is said", x.said(0), 1 + 4 + 8);
        due("each downwards", x.said(1), 165 + 166);
        tell(x, 0, "prior 500;");
        due("just not above", x.said(0), 1 + 4 + 8 + 64);
        due("500000 times 498, 499, 2 and 3", x.said(1), 249 + 249 + 1 + 1);
        tell(x, 0, "prior 0;");
        due("surely out: in is said where it costs nothing", x.said(0), 1 + 4);
        due("and costs nothing", x.said(1), 0);
        tell(x, 0, "prior 1000;");
        due("surely in", x.said(0), 255);
        due("and costs nothing", x.said(1), 0);
        IsHeIn y = withSigns(1, "prior 957;", "sign in 800 out 100;");
        yes("looks", y.looks(0, 0, 1));
        due("SURE", y.of(0, 5), 994414);
        y.caller(0, 179, 999);
        due("in is said", y.said(0), 1);
        due("999894 by a million", y.said(1), 0);
        y.caller(0, 180, 999);
        due("and 1005480 by a million", y.said(1), 1);
    }

    // ---- LOOKS, PAIR, BUSY ----

    private static void looksInOrder() {
        about("29: LOOKS: the i-th SIGN (0 the first); NONE if there is none such");
        due("no guest", new IsHeIn().looksAt(0, 0), NONE);
        due("no sign", house(1).looksAt(0, 0), NONE);
        IsHeIn x = withSigns(12, "prior 1000;", times(6, "sign in 9 out 7;"));
        for (int i = 0; i < 6; i++) {
            due("who is sure: by number", x.looksAt(11, i), i);
        }
        for (int i : new int[] {-1, 6, 7, MIN, MAX}) {
            due("looksAt(11, " + i + ")", x.looksAt(11, i), NONE);
        }
        for (int g : NO_GUESTS) {
            due("looksAt(" + g + ", 0)", x.looksAt(g, 0), NONE);
        }
        yes("looks", x.looks(11, 0, 1));
        yes("looks", x.looks(11, 3, 0));
        int[] left = {1, 2, 4, 5, NONE};
        for (int i = 0; i < left.length; i++) {
            due("those not looked at", x.looksAt(11, i), left[i]);
            due("of another all", x.looksAt(10, i), i);
        }
        for (int s : new int[] {1, 2, 4, 5}) {
            yes("looks", x.looks(11, s, 1));
        }
        due("none is left", x.looksAt(11, 0), NONE);
    }

    private static void looksAtHalf() {
        about("4: LOOKS: as if it were seen, if it is likelier than not (s of NEXT 500000 at least), else not seen");
        // The second sign tells most of one who is likely in, the third of one who is likely out.
        IsHeIn x = withSigns(1, "prior 500;", "sign in 960 out 40;sign in 999 out 100;sign in 900 out 1;");
        int[] seen = {0, 1, 2, NONE};
        for (int i = 0; i < 4; i++) {
            due("s is 500000: as if seen", x.looksAt(0, i), seen[i]);
        }
        int[] unseen = {0, 2, 1, NONE};
        tell(x, 1, "sign in 960 out 39;sign in 999 out 100;sign in 900 out 1;");
        for (int i = 0; i < 4; i++) {
            due("s is 499500: as if not seen", x.looksAt(0, i), unseen[i]);
        }
        x = withSigns(1, "prior 499;", "sign in 751 out 250;sign in 999 out 500;sign in 500 out 1;");
        due("s", 499 * 751 + 501 * 250, 499999);
        for (int i = 0; i < 4; i++) {
            due("s is 499999: as if not seen", x.looksAt(0, i), unseen[i]);
        }
    }

    private static void checkPair(IsHeIn x, int a, int b, int chance) {
        due("pair(0)", x.pair(0), a);
        due("pair(1)", x.pair(1), b);
        due("pair(2)", x.pair(2), chance);
    }

    private static void pair() {
        about("30: PAIR what 0 a, 1 b, 2 the chance. NONE if there are not two, or for another what; of several the first");
        checkPair(new IsHeIn(), NONE, NONE, NONE);
        checkPair(house(1), NONE, NONE, NONE);
        checkPair(house(2, "prior 1;"), 0, 1, 1);
        checkPair(house(2, "prior 0;"), 0, 1, 0);
        checkPair(full("prior 0;"), 0, 1, 0);
        checkPair(full("prior 1000;"), 0, 1, MILLION);
        checkPair(full("prior 1000 when guest>9;prior 999;"), 10, 11, MILLION);
        checkPair(full("prior 1000 when guest=11;prior 0;"), 0, 1, 0);
        checkPair(full("prior 1000 when guest=11;prior 1;"), 0, 11, 1000);
        checkPair(full("prior 1000 when guest=3;prior 999;"), 0, 3, 999000);
        checkPair(full("prior 500 when guest>7;prior 1;"), 8, 9, 250000);
        for (int what : new int[] {-1, 3, MIN, MAX}) {
            due("pair(" + what + ")", full("").pair(what), NONE);
        }
    }

    private static void checkBusy(IsHeIn x, String law, int clock, int moves) {
        tell(x, 0, law);
        due("busy(0) by " + law, x.busy(0), clock);
        due("busy(1) by " + law, x.busy(1), moves);
    }

    private static void busy() {
        about("32: BUSY what 0 the CLOCK, 1 the sum by 1000; of several the least. NONE for another what");
        checkBusy(new IsHeIn(), "", 0, 0);
        IsHeIn x = full("");
        checkBusy(x, "go 0;", 0, 0);
        checkBusy(x, "go 1000;", 0, 12);
        checkBusy(x, "go 1 when clock=0;go 0;", 0, 0);
        checkBusy(x, "go 1000 when clock=23;go 0;", 23, 12);
        checkBusy(x, "go 83 when clock>4;go 0;", 5, 0);
        checkBusy(x, "go 84 when clock>4;go 0;", 5, 1);
        checkBusy(x, "go clock*5;", 23, 1);
        checkBusy(house(3), "go 333;", 0, 0);
        checkBusy(house(4), "go 250;", 0, 1);
        checkBusy(x, "go 500 when clock=7;go 501 when clock=22;go 0;", 22, 6);
        checkBusy(x, "go 1000 when clock=9 and day=1;go 0;", 0, 0);
        for (int what : new int[] {-1, 2, MIN, MAX}) {
            due("busy(" + what + ")", x.busy(what), NONE);
        }
        x.hours(25);
        checkBusy(x, "go 1000 when clock=9 and day=1;go 0;come 0;", 9, 12);
        IsHeIn y = hung(NONE, NONE);
        checkBusy(y, "go 1000 when clock=3;go 0;come 500 when clock=17;come 0;", 17, 1);
        checkBusy(y, "come 1000 when since=0;come 0;", 0, 2);
    }

    // ---- tags ----

    private static void tagCost() {
        about("24: COST of a TAG w (0 .. 20) by x, y as in TAG (0 .. 999 each); NONE if one can't be");
        IsHeIn none = new IsHeIn();
        due("without guests", none.tagCost(999, 999, 20), 999 * 20);
        due("nothing", none.tagCost(0, 0, 0), 0);
        IsHeIn x = full("carry 1000;");
        due("the most", x.tagCost(999, 999, 20), 11988 + 19980);
        due("no weight", x.tagCost(999, 999, 0), 11988);
        due("no cost", x.tagCost(0, 0, 20), 0);
        for (int bad : new int[] {-1, 1000, MIN, MAX}) {
            due("x " + bad, x.tagCost(bad, 0, 0), NONE);
            due("y " + bad, x.tagCost(0, bad, 0), NONE);
        }
        for (int bad : new int[] {-1, 21, MIN, MAX}) {
            due("w " + bad, x.tagCost(0, 0, bad), NONE);
        }
        tell(x, 0, "carry 1 when guest=11;carry 0;");
        due("999 by 1000", x.tagCost(999, 1, 1), 1);
        tell(x, 0, "carry 1 when guest=11;carry 1 when guest=0;carry 0;");
        due("1998 by 1000", x.tagCost(999, 0, 1), 1);
        tell(x, 0, "carry 1000 when pear=20;carry 1 when pear=0;carry 0;");
        due("asked with that PEAR", x.tagCost(999, 0, 20), 11988);
        due("asked with that PEAR", x.tagCost(999, 0, 0), 11);
        due("asked with that PEAR", x.tagCost(999, 0, 19), 0);
    }

    private static void tag() {
        about("36: TAG: the PEAR w 0 .. 20 ... is least; of several the least; NONE if one can't be");
        due("without guests", new IsHeIn().tag(999, 0), 0);
        due("without guests", new IsHeIn().tag(999, 999), 0);
        IsHeIn x = full("carry 1000-pear*50;");
        due("the heaviest", x.tag(999, 0), 20);
        due("no cost", x.tag(0, 0), 0);
        due("weight alone", x.tag(0, 999), 0);
        due("the heaviest that pays", x.tag(10, 5), 20);
        due("each step costs as much: the least", x.tag(10, 6), 0);
        due("it does not pay", x.tag(10, 7), 0);
        for (int bad : new int[] {-1, 1000, MIN, MAX}) {
            due("x " + bad, x.tag(bad, 0), NONE);
            due("y " + bad, x.tag(0, bad), NONE);
        }
        tell(x, 0, "carry 0 when pear=7;carry 0 when pear=13;carry 9;");
        due("of two the least", x.tag(999, 0), 7);
        tell(x, 0, "carry 0 when pear=1;carry 9;");
        due("the second", x.tag(999, 0), 1);
        tell(x, 0, "carry 0 when pear=0;carry 5 when pear=2;carry 9;");
        due("the first", x.tag(999, 0), 0);
        tell(x, 0, "carry 1000-pear*45;");
        due("none is heavier", x.tag(999, 0), 20);
        tell(x, 0, "carry 0 when pear=20;carry 9;");
        due("the last", x.tag(999, 0), 20);
        due("999 and 20 times y", x.tag(999, 5), 20);
        due("107 and 20 times y", x.tag(999, 6), 0);
    }

    // ---- rooms ----

    private static void rooms() {
        about("37: ROOMS, up to 8: a GUEST, MINUTES 1 .. 99, by when 1 .. 999, WORTH 0 .. 99; NONE if one can't be, or eight");
        IsHeIn none = new IsHeIn();
        due("no guest", none.room(0, 1, 1, 1), NONE);
        due("none of none", none.room(NONE, 1, 1, 1), 0);
        IsHeIn x = full("");
        for (int bad : new int[] {0, -1, 100, MIN, MAX}) {
            due("minutes " + bad, x.room(0, bad, 1, 1), NONE);
            due("worth " + bad, x.room(0, 1, 1, bad), bad == 0 ? 1 : NONE);
        }
        for (int bad : new int[] {0, -1, 1000, MIN, MAX}) {
            due("by " + bad, x.room(0, 1, bad, 1), NONE);
        }
        for (int g : new int[] {-2, 12, MIN, MAX}) {
            due("room(" + g + ", 1, 1, 1)", x.room(g, 1, 1, 1), NONE);
        }
        due("one, of worth 0", x.look(11), 1);
        int[][] good = {{0, 1, 1, 0}, {11, 99, 999, 99}, {0, 99, 1, 0}, {11, 1, 999, 99}, {0, 98, 998, 98}, {5, 2, 2, 1},
            {11, 1, 1, 1}};
        for (int i = 0; i < 7; i++) {
            due("room", x.room(good[i][0], good[i][1], good[i][2], good[i][3]), i + 2);
            due("look(11)", x.look(11), i + 2);
        }
        due("the ninth", x.room(0, 1, 1, 1), NONE);
        due("eight", x.look(11), 8);
        due("none is then", x.room(NONE, 1, 1, 1), 0);
        due("look(11)", x.look(11), 0);
        due("the first again", x.room(11, 99, 999, 99), 1);
    }

    private static IsHeIn withRooms(int[]... rooms) {
        IsHeIn x = house(2, "prior 500;");
        for (int[] r : rooms) {
            x.room(r[0], r[1], r[2], r[3]);
        }
        due("rooms", x.look(11), rooms.length);
        return x;
    }

    private static void checkDone(int worth, int set, int[]... rooms) {
        IsHeIn x = withRooms(rooms);
        due("done(0)", x.done(0), worth);
        due("done(1)", x.done(1), set);
    }

    private static void done() {
        about("38: one behind the other from 0, each wholly by its when: the most WORTH; the set. NONE for another what");
        checkDone(0, 0);
        checkDone(1, 1, new int[] {0, 1, 1, 1});
        checkDone(0, 0, new int[] {0, 2, 1, 99});
        checkDone(99, 1, new int[] {0, 99, 99, 99});
        checkDone(0, 0, new int[] {0, 99, 98, 99});
        checkDone(2, 3, new int[] {0, 4, 10, 1}, new int[] {0, 6, 10, 1});
        checkDone(1, 1, new int[] {0, 4, 9, 1}, new int[] {0, 6, 9, 1});
        checkDone(2, 3, new int[] {0, 6, 10, 1}, new int[] {0, 4, 4, 1});
        checkDone(1, 1, new int[] {0, 6, 9, 1}, new int[] {0, 4, 4, 1});
        int[] long99 = {1, 99, 792, 99};
        checkDone(792, 255, long99, long99, long99, long99, long99, long99, long99, long99);
        int[] short99 = {1, 99, 791, 99};
        checkDone(693, 127, short99, short99, short99, short99, short99, short99, short99, short99);
        checkDone(99, 128, new int[] {0, 1, 1, 1}, new int[] {0, 1, 1, 1}, new int[] {0, 1, 1, 1}, new int[] {0, 1, 1, 1},
            new int[] {0, 1, 1, 1}, new int[] {0, 1, 1, 1}, new int[] {0, 1, 1, 1}, new int[] {0, 1, 1, 99});
        IsHeIn x = withRooms(long99);
        for (int what : new int[] {-1, 2, MIN, MAX}) {
            due("done(" + what + ")", x.done(what), NONE);
        }
    }

    private static void doneOfSeveral() {
        about("38: (of several the fewest ROOMS, then the least)");
        checkDone(0, 0, new int[] {0, 1, 9, 0}, new int[] {0, 1, 9, 0});
        checkDone(5, 2, new int[] {0, 1, 9, 0}, new int[] {0, 1, 9, 5});
        checkDone(5, 4, new int[] {0, 5, 9, 2}, new int[] {0, 4, 9, 3}, new int[] {0, 9, 9, 5});
        checkDone(5, 1, new int[] {0, 9, 9, 5}, new int[] {0, 9, 9, 5}, new int[] {0, 9, 9, 5});
        checkDone(6, 3, new int[] {0, 3, 6, 3}, new int[] {0, 3, 6, 3}, new int[] {0, 3, 6, 3});
        checkDone(6, 6, new int[] {0, 3, 6, 2}, new int[] {0, 3, 6, 3}, new int[] {0, 3, 6, 3});
        checkDone(6, 6, new int[] {0, 3, 6, 1}, new int[] {0, 3, 6, 3}, new int[] {0, 3, 6, 3}, new int[] {0, 3, 6, 3});
    }

    private static void knocks() {
        about("35: KNOCKS: ROOMS by SURE of their GUESTS, the least first; of several the lesser ROOM; NONE if none such");
        due("no rooms", new IsHeIn().knocks(0), NONE);
        IsHeIn x = full("prior 1000 when guest=0;prior 0 when guest=11;prior 500;");
        for (int i : new int[] {-1, 0, MIN, MAX}) {
            due("no rooms: knocks(" + i + ")", x.knocks(i), NONE);
        }
        int[] guests = {0, 5, 11, 0, 6, 11, 5, 0};
        for (int i = 0; i < 8; i++) {
            x.room(guests[i], 1, 1, 1);
        }
        int[] order = {2, 5, 1, 4, 6, 0, 3, 7};
        for (int i = 0; i < 8; i++) {
            due("knocks(" + i + ")", x.knocks(i), order[i]);
        }
        for (int i : new int[] {-1, 8, MIN, MAX}) {
            due("knocks(" + i + ")", x.knocks(i), NONE);
        }
        tell(x, 0, "prior 7;");
        for (int i = 0; i < 8; i++) {
            due("all the same", x.knocks(i), i);
        }
    }

    // ---- fire ----

    private static void checkFire(IsHeIn x, int m, int found, int... row) {
        due("fire(" + m + ", 0)", x.fire(m, 0), found);
        due("fire(" + m + ", 1)", x.fire(m, 1), row.length);
        for (int i = 0; i < row.length; i++) {
            due("fire(" + m + ", " + (10 + i) + ")", x.fire(m, 10 + i), row[i]);
        }
        due("fire(" + m + ", " + (10 + row.length) + ")", x.fire(m, 10 + row.length), NONE);
    }

    private static IsHeIn onFloors(String law, int... floors) {
        IsHeIn x = new IsHeIn();
        for (int f : floors) {
            x.guest(f, 0);
        }
        tell(x, 0, law);
        return x;
    }

    private static void fireTimes() {
        about("40: FIRE of m (1 .. 99) minutes: 3 minutes and 2 for each FLOOR that it is off from the last one (0 at first)");
        for (int f = 0; f < 4; f++) {
            IsHeIn x = onFloors("prior 1000;", f);
            checkFire(x, 3 + 2 * f - 1, 0);
            checkFire(x, 3 + 2 * f, 1, f);
        }
        IsHeIn x = onFloors("prior 1000;", 0, 1, 2, 3);
        checkFire(x, 1, 0);
        checkFire(x, 2, 0);
        checkFire(x, 3, 1, 0);
        checkFire(x, 7, 1, 0);
        checkFire(x, 8, 2, 0, 1);
        checkFire(x, 12, 2, 0, 1);
        checkFire(x, 13, 3, 0, 1, 2);
        checkFire(x, 17, 3, 0, 1, 2);
        checkFire(x, 18, 4, 0, 1, 2, 3);
        checkFire(x, 99, 4, 0, 1, 2, 3);
        IsHeIn none = new IsHeIn();
        for (int m : new int[] {0, -1, 100, MIN, MAX}) {
            for (int what : new int[] {0, 1, 10}) {
                due("fire(" + m + ", " + what + ")", x.fire(m, what), NONE);
                due("fire(" + m + ", " + what + ")", none.fire(m, what), NONE);
            }
        }
        for (int what : new int[] {-1, 2, 9, 14, 15, MIN, MAX}) {
            due("fire(99, " + what + ")", x.fire(99, what), NONE);
        }
        checkFire(none, 99, 0);
        checkFire(onFloors("prior 0;", 0, 1, 2, 3), 99, 0);
        checkFire(onFloors("prior 999;", 0, 0, 0, 0, 0, 0, 0, 0, 0, 0, 0, 0), 3, 11, 0);
        checkFire(onFloors("prior 1000;", 3, 3, 3, 3, 3, 3, 3, 3, 3, 3, 3, 3), 9, 12, 3);
    }

    private static void fireOfSeveral() {
        about("40: the most that can be found; the first row (the lesser FLOOR first, the shorter row first)");
        checkFire(onFloors("prior 1000;", 0), 99, 1, 0);
        checkFire(onFloors("prior 1000;", 1), 99, 1, 0, 1);
        checkFire(onFloors("prior 1000;", 1), 8, 1, 0, 1);
        checkFire(onFloors("prior 1000;", 1), 7, 1, 1);
        checkFire(onFloors("prior 1000;", 3), 99, 1, 0, 1, 2, 3);
        checkFire(onFloors("prior 1000;", 3), 17, 1, 0, 1, 3);
        checkFire(onFloors("prior 1000;", 3), 14, 1, 0, 3);
        checkFire(onFloors("prior 1000;", 3), 12, 1, 0, 3);
        checkFire(onFloors("prior 1000;", 3), 11, 1, 3);
        checkFire(onFloors("prior 1000;", 2, 3), 18, 2, 0, 1, 2, 3);
        checkFire(onFloors("prior 1000;", 2, 3), 15, 2, 0, 2, 3);
        checkFire(onFloors("prior 1000;", 2, 3), 14, 2, 2, 3);
        checkFire(onFloors("prior 1000;", 2, 3), 11, 1, 0, 2);
        checkFire(onFloors("prior 1 when floor=3;prior 1000;", 2, 3, 3), 11, 1, 0, 2);
        checkFire(onFloors("prior 501 when floor=3;prior 1000;", 2, 3, 3), 11, 1, 3);
        checkFire(onFloors("prior 500 when floor=3;prior 1000;", 2, 3, 3), 11, 1, 0, 2);
    }

    // ---- stands ----

    private static void checkStands(IsHeIn x, int price, int most, String doors) {
        due("stands(" + price + ", 0)", x.stands(price, 0), most);
        for (int clock = 0; clock < 24; clock++) {
            due("stands(" + price + ", " + (10 + clock) + ")", x.stands(price, 10 + clock), doors.charAt(clock) - '0');
        }
    }

    private static void stands() {
        about("41: STANDS by a price c (0 .. 999); what 0 the most, 10 + c the DOOR at CLOCK c. NONE if c can't be, or "
            + "another what");
        String front = times(24, "0");
        checkStands(new IsHeIn(), 0, 0, front);
        checkStands(new IsHeIn(), 999, 0, front);
        IsHeIn x = full("go 0;");
        checkStands(x, 0, 0, front);
        tell(x, 0, "go 1000;front 0;");
        checkStands(x, 0, 24 * 12000, times(24, "1"));
        tell(x, 0, "go 1000;front 1000;");
        checkStands(x, 999, 24 * 12000, front);
        for (int bad : new int[] {-1, 1000, MIN, MAX}) {
            for (int what : new int[] {0, 10, 33}) {
                due("stands(" + bad + ", " + what + ")", x.stands(bad, what), NONE);
            }
        }
        for (int what : new int[] {-1, 1, 2, 9, 34, 35, MIN, MAX}) {
            due("stands(0, " + what + ")", x.stands(0, what), NONE);
        }
        about("4: go times front by 1000 of each GUEST who is in, at DOOR 1: go less that, added");
        tell(x, 0, "go 1 when clock=0;go 0;front 999;");
        checkStands(x, 0, 12, "1" + times(23, "0"));
        IsHeIn y = house(3, "go 1000 when guest=2;go 0;carry 1000;");
        y.hours(1);
        tell(y, 0, "go 1000 when guest=2;go 10;front 0;");
        checkStands(y, 0, 24 * 20, times(24, "1"));
        tell(y, 0, "go 10 when day=0 and rain=0 and since=1;go 0;front clock*40;");
        due("all else as now", y.stands(0, 0), mostByClock());
    }

    private static int mostByClock() {
        int sum = 0;
        for (int clock = 0; clock < 24; clock++) {
            int front = 10 * clock * 40 / 1000;
            sum += 2 * Math.max(front, 10 - front);
        }
        return sum;
    }

    private static void standsOfSeveral() {
        about("4: less c for each change from one CLOCK to the next; of several ways the first (DOOR 0 first)");
        IsHeIn x = house(1, "go 100 when clock=23;go 0;front 0;");
        checkStands(x, 99, 100, times(24, "1"));
        checkStands(x, 0, 100, times(23, "0") + "1");
        tell(x, 0, "go 100 when clock=0;go 100 when clock=23;go 0;front 1000 when clock=0;front 0;");
        checkStands(x, 99, 101, times(23, "0") + "1");
        checkStands(x, 100, 100, times(24, "0"));
        checkStands(x, 101, 100, times(24, "0"));
        checkStands(x, 999, 100, times(24, "0"));
        tell(x, 0, "go 100 when clock=0;go 100 when clock=23;go 0;front 0 when clock=0;front 1000;");
        checkStands(x, 99, 101, "1" + times(23, "0"));
        checkStands(x, 100, 100, times(24, "0"));
        tell(x, 0, "go 100 when clock=0;go 101 when clock=12;go 100 when clock=23;go 0;front 0 when clock=12;front 1000;");
        checkStands(x, 50, 201, times(12, "0") + "1" + times(11, "0"));
        checkStands(x, 51, 200, times(24, "0"));
        tell(x, 0, "go 100 when clock=0;go 100 when clock=12;go 100 when clock=23;go 0;front 0 when clock=12;front 1000;");
        checkStands(x, 50, 200, times(24, "0"));
        tell(x, 0, "go 999;front 0 when clock>11;front 1000;");
        checkStands(x, 999, 23 * 999, times(12, "0") + times(12, "1"));
    }

    // ---- carries, away ----

    private static void carries() {
        about("43: the GUEST with the greatest carry; of several the least; NONE without GUESTS");
        due("nobody", new IsHeIn().carries(), NONE);
        due("one", house(1, "carry 0;").carries(), 0);
        due("none carries: the least", full("carry 0;").carries(), 0);
        due("all carry: the least", full("carry 1000;").carries(), 0);
        due("the last", full("carry 1000 when guest=11;carry 999;").carries(), 11);
        due("what is held is the same", full("carry 9999 when guest=11;carry 1000;").carries(), 0);
        due("the first of two", full("carry 5 when guest=4;carry 5 when guest=9;carry 4;").carries(), 4);
    }

    private static void away() {
        about("44: AWAY of a GUEST (who is OUT) after n (0 .. 48) HOURS; NONE if one can't be (he is in)");
        due("nobody", new IsHeIn().away(0, 0), NONE);
        due("he is in", full("").away(0, 0), NONE);
        IsHeIn x = house(12, "go 1000 when guest=0;go 1000 when guest=11;go 0;come 0;");
        x.hours(1);
        for (int g : new int[] {0, 11}) {
            for (int n : new int[] {0, 1, 47, 48}) {
                due("away(" + g + ", " + n + ")", x.away(g, n), MILLION);
            }
            for (int n : new int[] {-1, 49, MIN, MAX}) {
                due("away(" + g + ", " + n + ")", x.away(g, n), NONE);
            }
        }
        for (int g : NO_GUESTS) {
            due("away(" + g + ", 1)", x.away(g, 1), NONE);
        }
        due("he is in", x.away(1, 1), NONE);
        due("he is in", x.away(10, 0), NONE);
        tell(x, 0, "come 1000;");
        due("after none", x.away(0, 0), MILLION);
        due("after one", x.away(0, 1), 0);
        due("after all", x.away(0, 48), 0);
        tell(x, 0, "come 333;");
        long p = MILLION;
        for (int n = 0; n <= 48; n++) {
            due("downwards each HOUR: " + n, x.away(11, n), p);
            p = p * 667 / 1000;
        }
        tell(x, 0, "come 1000 when since=47;come 0;");
        due("since of the last HOUR", x.away(0, 47), MILLION);
        due("since of the last HOUR", x.away(0, 48), 0);
        tell(x, 0, "come 1000 when clock=0 and day=1;come 0;");
        due("before midnight", x.away(0, 23), MILLION);
        due("after midnight", x.away(0, 24), 0);
        tell(x, 0, "come 1000 when clock=0 and day=2;come 0;");
        due("before the second midnight", x.away(0, 47), MILLION);
        due("after the second midnight", x.away(0, 48), 0);
    }

    private static void awayLate() {
        about("4: come asked with that CLOCK, DAY, since (999 at most), all else as now");
        IsHeIn x = house(1, "go 1000;come 0;");
        atHour(x, 999);
        tell(x, 0, "come 1000 when since=999;come 0;");
        due("998 now", x.of(0, 4), 998);
        due("after one", x.away(0, 1), MILLION);
        due("after two", x.away(0, 2), 0);
        tell(x, 0, "come 1000 when since>999;come 500 when since=999;come 0;");
        due("after two", x.away(0, 2), 500000);
        due("999 at most: after three", x.away(0, 3), 250000);
        tell(x, 0, "come 0;");
        atHour(x, 9999);
        tell(x, 0, "come 1000 when day=416 and clock=15;come 0;");
        due("the hour that is", x.away(0, 1), 0);
        tell(x, 0, "come 1000 when day=417 and clock=0;come 0;");
        due("hours that never come, in thought", x.away(0, 9), MILLION);
        due("hours that never come, in thought", x.away(0, 10), 0);
        due("since stays", x.of(0, 4), 999);
    }
}
