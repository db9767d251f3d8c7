/** The edges of what the document says of UNDO and THE IMAGE (Terms 4, promises 45 and 46). */
public final class BackEdges extends Checks {
    private static final String MOVING = "go 1000;come 1000;carry 0;";

    /** A call on a house. */
    private interface Call {
        void on(IsHeIn x);
    }

    public static void main(String[] args) {
        nothingToUndo();
        sixAreKept();
        eachOneIsOne();
        undoneAndDoneAgain();
        whatGoesBack();
        fullBook();
        allTwelve();
        lastHour();
        whatStays();
        whatForgets();
        whatDoesNotForget();
        noImage();
        emptyImage();
        fewerGuests();
        fullImage();
        imageMoreThanOnce();
        imageAndUndo();
        notInTheImage();
        finish();
    }

    // ---- undo ----

    private static void nothingToUndo() {
        about("45: UNDO: true; false if there is nothing");
        IsHeIn x = new IsHeIn();
        no("a new one", x.undo());
        x.guest(0, 0);
        no("only a guest", x.undo());
        x.hours(61);
        x.hang(0, 0);
        x.looks(0, 0, 1);
        no("only what can't be", x.undo());
        due("look(12)", x.look(12), 0);
        IsHeIn empty = new IsHeIn();
        empty.hours(1);
        yes("an hour without guests", empty.undo());
        due("hour", empty.look(1), 0);
        no("no more", empty.undo());
    }

    private static void sixAreKept() {
        about("4: UNDO: 6 are kept");
        for (int n = 1; n <= 60; n += n == 8 ? 52 : 1) {
            IsHeIn x = house(2, MOVING);
            x.hours(n);
            int kept = Math.min(n, 6);
            for (int left = kept; left > 0; left--) {
                due("what can be undone", x.look(12), left);
                yes("undo", x.undo());
                due("hour", x.look(1), n - kept + left - 1);
            }
            due("nothing is left", x.look(12), 0);
            no("no more", x.undo());
            due("hour", x.look(1), n - kept);
        }
    }

    private static void eachOneIsOne() {
        about("4: UNDO: the latest HOUR, HANGING, LOOK not undone yet goes back");
        IsHeIn x = house(2, MOVING);
        tell(x, 1, "sign in 5 out 6;");
        x.hours(2);
        x.hours(1);
        due("three hours by two calls", x.look(12), 3);
        yes("look", x.looks(1, 0, 1));
        yes("look", x.looks(1, 0, 0));
        yes("look", x.looks(1, 0, NONE));
        due("and three looks", x.look(12), 6);
        yes("undo the last look", x.undo());
        due("not seen", x.sign(0, 3), 0);
        yes("undo the second look", x.undo());
        due("seen", x.sign(0, 3), 1);
        yes("undo the first look", x.undo());
        due("not looked", x.sign(0, 3), NONE);
        due("the hours stand", x.look(1), 3);
        IsHeIn y = hung(NONE, NONE);
        yes("hang", y.hang(0, 0));
        yes("hang", y.hang(0, 1));
        yes("hang", y.hang(1, 0));
        due("an hour and three", y.look(12), 4);
        yes("undo", y.undo());
        due("he has his key", y.of(1, 3), NONE);
        yes("undo", y.undo());
        due("from where it was", y.of(0, 3), 0);
        yes("undo", y.undo());
        due("he has his key", y.of(0, 3), NONE);
        due("lines", y.look(6), 2);
        yes("undo the hour", y.undo());
        due("all are in", y.look(2), 0);
        due("no line", y.look(6), 0);
    }

    private static void undoneAndDoneAgain() {
        about("4: UNDO: not undone yet; 6 are kept");
        IsHeIn x = house(2, MOVING);
        x.hours(9);
        yes("undo", x.undo());
        yes("undo", x.undo());
        due("four are left", x.look(12), 4);
        x.hours(1);
        due("and one", x.look(12), 5);
        due("hour", x.look(1), 8);
        x.hours(3);
        due("six at most", x.look(12), 6);
        for (int hour = 10; hour >= 5; hour--) {
            yes("undo", x.undo());
            due("hour", x.look(1), hour);
        }
        no("no more", x.undo());
        x.hours(1);
        due("one again", x.look(12), 1);
        yes("undo", x.undo());
        no("no more", x.undo());
        due("hour", x.look(1), 5);
    }

    private static int[] all(IsHeIn x, int signs) {
        int guests = x.look(0);
        int lines = x.look(6);
        int[] all = new int[14 + guests * (13 + signs) + 5 * Math.min(lines, 30)];
        int n = 0;
        for (int what = 0; what < 14; what++) {
            all[n++] = what == 12 ? 0 : x.look(what);
        }
        for (int g = 0; g < guests; g++) {
            for (int what = 0; what < 12; what++) {
                all[n++] = x.of(g, what);
            }
            all[n++] = x.hook(g);
            for (int s = 0; s < signs; s++) {
                all[n++] = x.sign(s, 2 + g);
            }
        }
        for (int i = Math.max(0, lines - 30); i < lines; i++) {
            for (int what = 0; what < 5; what++) {
                all[n++] = x.book(i, what);
            }
        }
        return all;
    }

    private static void same(String what, int[] got, int[] want) {
        due(what + ": how many", got.length, want.length);
        for (int i = 0; i < got.length && i < want.length; i++) {
            due(what + ": number " + i, got[i], want[i]);
        }
    }

    /** A house after so many steps: four hours, three hours, and a look. */
    private static IsHeIn stepped(int seed, int steps) {
        IsHeIn x = house(3, "go 600;come 500;carry 300;stray 500;");
        tell(x, 1, "sign in 800 out 100;sign in 300 out 600;");
        x.state(seed * 987654321);
        x.hours(4);
        for (int i = 0; i < steps; i++) {
            if (i < 3) {
                x.hours(1);
            } else {
                yes("look", x.looks(seed % 3, seed % 2, 1));
            }
        }
        return x;
    }

    private static void whatGoesBack() {
        about("4: UNDO: ... goes back (STATE, THE BOOK, too)");
        for (int seed = 1; seed < 9; seed++) {
            for (int steps = 4; steps >= 0; steps--) {
                IsHeIn x = stepped(seed, 4);
                for (int i = 4; i > steps; i--) {
                    yes("undo", x.undo());
                }
                same("undone to " + steps, all(x, 2), all(stepped(seed, steps), 2));
            }
            IsHeIn x = stepped(seed, 4);
            for (int i = 0; i < 4; i++) {
                yes("undo", x.undo());
            }
            x.hours(3);
            same("the same draws again", all(x, 2), all(stepped(seed, 3), 2));
        }
    }

    private static IsHeIn afterHours(int hours) {
        IsHeIn x = house(4, MOVING);
        x.hours(hours);
        return x;
    }

    private static void fullBook() {
        about("4: UNDO: THE BOOK, too; 3: (150 lines; no more then)");
        int[] lines = {144, 148, 150, 150, 150};
        for (int left = 4; left >= 0; left--) {
            IsHeIn x = afterHours(40);
            for (int i = 4; i > left; i--) {
                yes("undo", x.undo());
            }
            due("lines", x.look(6), lines[left]);
            same("undone", all(x, 0), all(afterHours(36 + left), 0));
        }
        IsHeIn x = afterHours(40);
        for (int i = 0; i < 4; i++) {
            yes("undo", x.undo());
        }
        x.hours(2);
        same("full again", all(x, 0), all(afterHours(38), 0));
    }

    private static void allTwelve() {
        about("4: UNDO: of all twelve guests, and all six signs");
        IsHeIn x = house(12, "go 1000 when clock=3;go 0;come 0;carry 1000;");
        tell(x, 1, "sign in 5 out 6;".repeat(6));
        x.hours(3);
        yes("looks", x.looks(11, 5, 1));
        yes("looks", x.looks(0, 0, 0));
        x.hours(1);
        yes("hang", x.hang(11, 0));
        yes("looks", x.looks(11, 5, 0));
        due("seen of the last", x.sign(5, 13), 0);
        yes("undo the look", x.undo());
        due("seen of the last", x.sign(5, 13), 1);
        due("its key", x.of(11, 3), 0);
        yes("undo the hanging", x.undo());
        due("its key", x.of(11, 3), NONE);
        due("out", x.look(2), 4095);
        due("since", x.of(11, 4), 0);
        yes("undo the hour", x.undo());
        due("out", x.look(2), 0);
        due("since", x.of(11, 4), 3);
        due("seen of the last", x.sign(5, 13), 1);
        due("seen of the first", x.sign(0, 2), 0);
        yes("undo a look", x.undo());
        due("seen of the first", x.sign(0, 2), NONE);
        yes("undo a look", x.undo());
        due("seen of the last", x.sign(5, 13), NONE);
        yes("undo an hour", x.undo());
        due("since", x.of(11, 4), 2);
        no("six are kept", x.undo());
    }

    private static void lastHour() {
        about("1: HOUR 0 .. 9999; 4: UNDO");
        IsHeIn x = house(1, "go 0;");
        for (int i = 0; i < 166; i++) {
            x.hours(60);
        }
        x.hours(39);
        due("hour", x.look(1), 9999);
        due("no more", x.hours(1), NONE);
        yes("undo", x.undo());
        due("hour", x.look(1), 9998);
        due("again", x.hours(1), 0);
        due("six", x.look(12), 6);
        for (int i = 0; i < 6; i++) {
            yes("undo", x.undo());
        }
        due("hour", x.look(1), 9993);
        due("since stays 999", x.of(0, 4), 999);
    }

    private static void whatStays() {
        about("4: UNDO: whatever else is told but THE LAW, ROOMS, CALLERS forgets them");
        IsHeIn x = house(2, MOVING);
        tell(x, 1, "sign in 5 out 6;");
        x.hours(1);
        tell(x, 0, "go 5;come 6;");
        x.room(1, 2, 3, 4);
        x.caller(1, 5, 6);
        yes("look", x.looks(0, 0, 1));
        tell(x, 0, "go 7;come 8;carry 9;");
        x.room(0, 1, 1, 1);
        x.caller(NONE, 0, 0);
        yes("undo the look", x.undo());
        yes("undo the hour", x.undo());
        due("THE LAW as told last", x.of(0, 6), 7);
        due("its lines", x.look(8), 3);
        due("ROOMS as told last", x.look(11), 2);
        due("CALLERS as told last", x.look(13), 0);
        due("SIGNS", x.look(9), 1);
        due("all in", x.look(2), 0);
    }

    private static IsHeIn withSix() {
        IsHeIn x = house(11, MOVING);
        tell(x, 1, "sign in 5 out 6;");
        x.image(true);
        x.hours(6);
        due("six", x.look(12), 6);
        return x;
    }

    private static void whatForgets() {
        about("4: UNDO: whatever else is told but THE LAW, ROOMS, CALLERS (the taking of THE IMAGE does not) forgets them");
        Call[] forget = {x -> x.state(x.look(7)), x -> x.guest(0, 0), x -> x.set(0, 0, 0), x -> x.set(1, 0, 9),
            x -> x.set(2, 10, 99), x -> x.text(1), x -> x.text(2), x -> tell(x, 1, "sign in 5 out 6;"),
            x -> tell(x, 2, "clerk 0 from 0 for 1 at 0;"), x -> x.image(false)};
        for (int i = 0; i < forget.length; i++) {
            IsHeIn x = withSix();
            forget[i].on(x);
            due("what forgets, number " + i, x.look(12), 0);
            no("undo", x.undo());
            due("hour", x.look(1), i == forget.length - 1 ? 0 : 6);
            x.hours(1);
            due("kept again", x.look(12), 1);
        }
    }

    private static void whatDoesNotForget() {
        about("4: UNDO: (the taking of THE IMAGE does not); and what can't be is not told");
        Call[] keep = {x -> x.text(0), x -> tell(x, 0, "go 1;"), x -> tell(x, 0, "?"), x -> x.room(0, 1, 1, 1),
            x -> x.room(NONE, 1, 1, 1), x -> x.caller(0, 1, 1), x -> x.caller(NONE, 1, 1), x -> x.image(true),
            x -> x.feed(1, 2, 3, 4, 5), x -> x.end(0), x -> tell(x, 1, "sign"), x -> tell(x, 2, "clerk"), x -> x.text(3),
            x -> x.text(-1), x -> x.guest(4, 0), x -> x.guest(0, 100), x -> x.set(0, 0, 21), x -> x.set(1, 0, 10),
            x -> x.set(2, 11, 0), x -> x.set(3, 0, 0), x -> x.hours(61), x -> x.hours(0), x -> x.hang(0, 99),
            x -> x.looks(0, 0, NONE), x -> x.looks(0, 1, 1), x -> x.room(0, 100, 1, 1), x -> x.caller(0, 1000, 1)};
        for (int i = 0; i < keep.length; i++) {
            IsHeIn x = withSix();
            keep[i].on(x);
            due("what does not forget, number " + i, x.look(12), 6);
            for (int hour = 5; hour >= 0; hour--) {
                yes("undo", x.undo());
                due("hour", x.look(1), hour);
            }
        }
        IsHeIn x = house(12, MOVING);
        x.hours(1);
        due("the thirteenth", x.guest(0, 0), NONE);
        due("kept", x.look(12), 1);
        IsHeIn y = house(1, MOVING);
        y.hours(1);
        no("none is taken", y.image(false));
        due("kept", y.look(12), 1);
    }

    // ---- the image ----

    private static void noImage() {
        about("46: THE IMAGE is taken (true), or gone back to (false): true; false if there is none");
        IsHeIn x = new IsHeIn();
        no("a new one", x.image(false));
        x.guest(0, 0);
        x.hours(3);
        no("none is taken", x.image(false));
        due("the guest stays", x.look(0), 1);
        due("the hour stays", x.look(1), 3);
        yes("taken", x.image(true));
        yes("there is one", x.image(false));
    }

    private static void emptyImage() {
        about("46: THE IMAGE: all that is and was told, as it was when it was taken (nobody)");
        IsHeIn x = new IsHeIn();
        yes("taken", x.image(true));
        change(x);
        yes("back", x.image(false));
        for (int what = 0; what < 14; what++) {
            due("look(" + what + ")", x.look(what), 0);
        }
        due("of(0, 0)", x.of(0, 0), NO_SUCH);
        due("the first guest", x.guest(0, 0), 0);
        int[] first = {0, 0, 0, NONE, 0, 900000, 100, 200, 300, 0, 500, 900};
        for (int what = 0; what < 12; what++) {
            due("of(0, " + what + ")", x.of(0, what), first[what]);
        }
        due("book(0, 0)", x.book(0, 0), NO_SUCH);
        tell(x, 1, "sign in 1 out 1;");
        due("not looked", x.sign(0, 2), NONE);
    }

    private static void fewerGuests() {
        about("46: THE IMAGE: all that is: who came later is nobody, for what is asked, too");
        IsHeIn x = house(2, "prior 500;carry 1000;");
        yes("taken", x.image(true));
        for (int g = 2; g < 12; g++) {
            x.guest(g % 4, 0);
        }
        tell(x, 0, "go 1000;carry 1000;come 0;prior 1000;");
        x.hours(1);
        for (int g = 0; g < 12; g++) {
            x.hang(g, 11 - g);
            x.of(g, 5);
        }
        due("all in by SURE", x.many(0), 12);
        due("and by pairs", x.pair(2), 1000000);
        yes("back", x.image(false));
        int[] due = {1, 1, 500000, 0, 1, 250000, 0, 0, 2, 1, 0, 0, 0, 0, NONE, 0, 0, 1000000, 500000, 0};
        int[] got = {x.many(0), x.many(1), x.many(2), x.pair(0), x.pair(1), x.pair(2), x.look(2), x.look(3), x.lack(0),
            x.lack(1), x.lack(2), x.swapped(0), x.swapped(1), x.expect(), x.thief(), x.carries(), x.span(250, 1), x.empty(2),
            x.empty(1), x.tellsOn(0)};
        for (int i = 0; i < due.length; i++) {
            due("answer " + i, got[i], due[i]);
        }
        due("counted(0, 2)", x.counted(0, 2), 1000000);
        due("counted(0, 3)", x.counted(0, 3), NONE);
        due("fire(99, 0)", x.fire(99, 0), 1);
        due("fire(99, 1)", x.fire(99, 1), 2);
    }

    /** Makes all that can be told another one. */
    private static void change(IsHeIn x) {
        x.guest(3, 33);
        x.set(0, 0, 7);
        x.set(1, 0, 8);
        x.set(2, 0, 77);
        tell(x, 0, "go 1000;carry 1000;come 0;prior 77;");
        tell(x, 1, "sign in 77 out 777;");
        tell(x, 2, "clerk 2 from 0 for 24 at 0;clerk 2 from 0 for 24 at 1;");
        x.state(7777777);
        x.hours(2);
        x.looks(0, 0, 1);
        x.hang(0, 0);
        x.room(NONE, 0, 0, 0);
        x.room(0, 7, 7, 7);
        x.caller(NONE, 0, 0);
        x.caller(0, 77, 77);
    }

    private static void fullImage() {
        about("46: THE IMAGE: all that is and was told, with all that is full");
        IsHeIn x = house(12, MOVING);
        for (int g = 0; g < 12; g++) {
            x.set(2, g, 99 - g);
        }
        tell(x, 1, "sign in 1 out 999;sign in 2 out 998;sign in 3 out 997;sign in 4 out 996;sign in 5 out 995;"
            + "sign in 6 out 994;");
        tell(x, 2, "clerk 0 from 0 for 1 at 1;".repeat(11) + "clerk 3 from 1 for 24 at 0;");
        x.set(0, 0, 20);
        x.set(1, 0, 9);
        x.hours(13);
        tell(x, 0, "come 0;".repeat(10) + "go 1 when 1=2;".repeat(5) + "go 7;");
        for (int g = 0; g < 12; g++) {
            x.looks(g, g % 6, g % 2);
        }
        for (int i = 0; i < 8; i++) {
            x.room(i, i + 1, 999, 99 - i);
            x.caller(i, 0, 999);
        }
        int[] sizes = {12, 13, 4095, x.look(3), 20, 9, 150, x.look(7), 16, 6, 12, 8, 0, 8};
        yes("taken", x.image(true));
        int[] was = brief(x);
        for (int again = 0; again < 2; again++) {
            change(x);
            yes("it is another one", brief(x)[12] != was[12]);
            yes("back", x.image(false));
            for (int what = 0; what < 14; what++) {
                due("look(" + what + ")", x.look(what), sizes[what]);
            }
            same("back at the image", brief(x), was);
        }
    }

    /** A number of each kind of what is held, of the last ones. */
    private static int[] brief(IsHeIn x) {
        return new int[] {x.of(11, 0), x.of(11, 1), x.of(11, 2), x.of(11, 3), x.of(11, 4), x.of(11, 5), x.of(0, 6), x.of(0, 7),
            x.hook(11), x.sign(5, 0), x.sign(5, 1), x.sign(5, 13), x.sign(0, 2), x.book(149, 0), x.book(149, 1),
            x.book(149, 2), x.book(149, 3), x.book(149, 4), x.done(0), x.done(1), x.said(0), x.said(1), x.knocks(7),
            x.many(2), x.by(0, 0), x.by(1, 1), x.look(7)};
    }

    private static void imageMoreThanOnce() {
        about("4: THE IMAGE: as it was when it was taken; gone back to it may be more than once");
        IsHeIn x = house(2, MOVING);
        x.hours(1);
        yes("taken", x.image(true));
        for (int i = 0; i < 4; i++) {
            x.hours(i + 1);
            due("hour", x.look(1), i + 2);
            yes("back", x.image(false));
            due("hour", x.look(1), 1);
            due("all are out", x.look(2), 3);
        }
        x.hours(2);
        yes("taken anew", x.image(true));
        x.hours(2);
        yes("back", x.image(false));
        due("at the new one", x.look(1), 3);
        yes("taken as it is", x.image(true));
        yes("back", x.image(false));
        due("hour", x.look(1), 3);
    }

    private static void imageAndUndo() {
        about("4: THE IMAGE: all but what can be undone (nothing then)");
        IsHeIn x = house(2, MOVING);
        x.hours(3);
        yes("taken", x.image(true));
        due("the taking forgets nothing", x.look(12), 3);
        yes("undo", x.undo());
        yes("undo", x.undo());
        due("hour", x.look(1), 1);
        yes("back", x.image(false));
        due("the image was not undone", x.look(1), 3);
        due("nothing to undo", x.look(12), 0);
        no("undo", x.undo());
        x.hours(1);
        due("one", x.look(12), 1);
        yes("undo", x.undo());
        due("hour", x.look(1), 3);
        no("no more", x.undo());
    }

    private static void notInTheImage() {
        about("4: THE IMAGE: all that is and was told but the TAPE, fault()");
        IsHeIn x = house(1, "go 5;");
        due("a fault", tell(x, 0, "go 1/0;"), NONE);
        write(x, "go 123;");
        yes("taken", x.image(true));
        yes("back", x.image(false));
        due("the fault stays", x.fault(0), 2);
        due("its place stays", x.fault(1), 5);
        yes("the tape has seven", x.end(7));
        no("and no more", x.end(8));
        due("the law was not told", x.of(0, 6), 5);
        due("the tape stays", x.text(0), 1);
        due("go", x.of(0, 6), 123);
        write(x, "go 1 2;");
        yes("back", x.image(false));
        due("the fault of the latest text()", x.fault(0), 0);
        due("the law goes back", x.of(0, 6), 5);
        due("the tape does not", x.text(0), NONE);
        due("its fault", x.fault(1), 5);
    }
}
