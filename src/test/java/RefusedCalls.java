import java.util.ArrayList;
import java.util.List;

/**
 * A refused call answers as the document says, and changes nothing: neither what can be seen, nor the tape, nor what
 * can be undone, nor the image; and of what is asked in thought nothing stays.
 */
public final class RefusedCalls extends Checks {
    private static final String LAW = "go 1000 when guest<2;go 0;come 0;carry 1000 when guest=0;carry 0;";
    private static final int[] NO_GUEST = {-1, 3, MIN, MAX};
    private static final int[] NOBODY = {-2, 3, MIN, MAX};

    /** A call on a house, and its answer. */
    private interface Call {
        long on(IsHeIn x);
    }

    private record Refused(String what, Call call, long due) { }

    public static void main(String[] args) {
        check(told());
        check(writtenAndAsked());
        check(asked());
        check(askedOfRooms());
        checkTexts();
        checkFull();
        checkEmpty();
        nothingStays();
        finish();
    }

    private static long b(boolean is) {
        return is ? 1 : 0;
    }

    // ---- a house in which there is something of each kind ----

    private static IsHeIn lived() {
        IsHeIn x = house(3);
        tell(x, 1, "sign in 800 out 100;sign in 300 out 600;");
        tell(x, 2, "clerk 1 from 0 for 24 at 0;");
        x.set(0, 0, 3);
        x.set(1, 0, 2);
        tell(x, 0, LAW);
        x.room(1, 5, 20, 7);
        x.caller(2, 30, 40);
        x.state(77);
        x.image(true);
        x.hours(1);
        x.looks(0, 1, 1);
        tell(x, 0, "go 7/0;");
        write(x, "go 5;go 6;");
        return x;
    }

    private static void see(IsHeIn x, List<Long> all) {
        for (int what = 0; what < 14; what++) {
            all.add((long) x.look(what));
        }
        for (int g = 0; g < x.look(0); g++) {
            for (int what = 0; what < 12; what++) {
                all.add((long) x.of(g, what));
            }
            all.add((long) x.hook(g));
        }
        for (int s = 0; s < x.look(9); s++) {
            for (int what = 0; what < 2 + x.look(0); what++) {
                all.add((long) x.sign(s, what));
            }
        }
        for (int i = 0; i < x.look(6); i++) {
            for (int what = 0; what < 5; what++) {
                all.add((long) x.book(i, what));
            }
        }
        for (int what = 0; what < 2; what++) {
            all.add((long) x.done(what));
            all.add((long) x.said(what));
        }
    }

    /** All that can be seen of a house that was lived in, and of it undone, and of its image. */
    private static List<Long> seen(IsHeIn x, boolean withTape) {
        List<Long> all = new ArrayList<>();
        see(x, all);
        if (withTape) {
            all.add((long) x.fault(0));
            all.add((long) x.fault(1));
            all.add(b(x.end(11)));
            all.add(b(x.end(10)));
            all.add((long) x.text(0));
            all.add((long) x.of(0, 6));
        }
        tell(x, 0, LAW);
        for (int i = 0; i < 2; i++) {
            all.add(b(x.undo()));
            see(x, all);
        }
        all.add(b(x.undo()));
        all.add(b(x.image(false)));
        see(x, all);
        return all;
    }

    private static void check(List<Refused> calls) {
        List<Long> want = seen(lived(), true);
        yes("there is something to see", want.size() > 200);
        for (Refused r : calls) {
            IsHeIn x = lived();
            due(r.what, r.call.on(x), r.due);
            due(r.what + ", and nothing is changed", b(seen(x, true).equals(want)), 1);
        }
    }

    // ---- what is refused ----

    private static List<Refused> told() {
        about("3 to 9, 27, 37: what can't be is refused, and nothing is done");
        List<Refused> all = new ArrayList<>();
        for (int v : new int[] {-1, 4, MIN, MAX}) {
            all.add(new Refused("guest(" + v + ", 0)", x -> x.guest(v, 0), NONE));
        }
        for (int v : new int[] {-1, 100, MIN, MAX}) {
            all.add(new Refused("guest(0, " + v + ")", x -> x.guest(0, v), NONE));
            all.add(new Refused("set(2, 0, " + v + ")", x -> b(x.set(2, 0, v)), 0));
        }
        for (int v : new int[] {-1, 21, MIN, MAX}) {
            all.add(new Refused("set(0, 0, " + v + ")", x -> b(x.set(0, 0, v)), 0));
        }
        for (int v : new int[] {-1, 10, MIN, MAX}) {
            all.add(new Refused("set(1, 0, " + v + ")", x -> b(x.set(1, 0, v)), 0));
        }
        for (int v : new int[] {-1, 3, MIN, MAX}) {
            all.add(new Refused("set(" + v + ", 0, 1)", x -> b(x.set(v, 0, 1)), 0));
            all.add(new Refused("set(2, " + v + ", 1)", x -> b(x.set(2, v, 1)), 0));
            all.add(new Refused("hang(" + v + ", 0)", x -> b(x.hang(v, 0)), 0));
            all.add(new Refused("hang(0, " + v + ")", x -> b(x.hang(0, v)), 0));
            all.add(new Refused("looks(" + v + ", 0, 1)", x -> b(x.looks(v, 0, 1)), 0));
        }
        all.add(new Refused("hang of who is in", x -> b(x.hang(2, 2)), 0));
        all.add(new Refused("hang on a hook with a key", x -> b(x.hang(0, 1)), 0));
        all.add(new Refused("hang where it hangs", x -> b(x.hang(1, 1)), 0));
        for (int v : new int[] {-1, 2, MIN, MAX}) {
            all.add(new Refused("looks(0, " + v + ", 1)", x -> b(x.looks(0, v, 1)), 0));
        }
        for (int v : new int[] {-2, 2, MIN, MAX}) {
            all.add(new Refused("looks(0, 0, " + v + ")", x -> b(x.looks(0, 0, v)), 0));
        }
        all.add(new Refused("looks as it is, not looked", x -> b(x.looks(0, 0, NONE)), 0));
        all.add(new Refused("looks as it is, seen", x -> b(x.looks(0, 1, 1)), 0));
        for (int v : new int[] {-1, 0, 61, MIN, MAX}) {
            all.add(new Refused("hours(" + v + ")", x -> x.hours(v), NONE));
        }
        for (int v : new int[] {-1, 11, MIN, MAX}) {
            all.add(new Refused("end(" + v + ")", x -> b(x.end(v)), 0));
        }
        all.addAll(callersAndRooms());
        return all;
    }

    private static List<Refused> callersAndRooms() {
        List<Refused> all = new ArrayList<>();
        for (int v : NOBODY) {
            all.add(new Refused("caller(" + v + ", 1, 1)", x -> x.caller(v, 1, 1), NONE));
            all.add(new Refused("room(" + v + ", 1, 1, 1)", x -> x.room(v, 1, 1, 1), NONE));
        }
        for (int v : new int[] {-1, 1000, MIN, MAX}) {
            all.add(new Refused("caller(0, " + v + ", 1)", x -> x.caller(0, v, 1), NONE));
            all.add(new Refused("caller(0, 1, " + v + ")", x -> x.caller(0, 1, v), NONE));
        }
        for (int v : new int[] {-1, 0, 100, MIN, MAX}) {
            all.add(new Refused("room(0, " + v + ", 1, 1)", x -> x.room(0, v, 1, 1), NONE));
        }
        for (int v : new int[] {-1, 0, 1000, MIN, MAX}) {
            all.add(new Refused("room(0, 1, " + v + ", 1)", x -> x.room(0, 1, v, 1), NONE));
        }
        for (int v : new int[] {-1, 100, MIN, MAX}) {
            all.add(new Refused("room(0, 1, 1, " + v + ")", x -> x.room(0, 1, 1, v), NONE));
        }
        return all;
    }

    private static List<Refused> writtenAndAsked() {
        about("11 to 15, 25, 26, 42, 47: no such one, or another what");
        List<Refused> all = new ArrayList<>();
        for (int v : new int[] {-1, 2, MIN, MAX}) {
            all.add(new Refused("fault(" + v + ")", x -> x.fault(v), NONE));
            all.add(new Refused("saw(0, " + v + ")", x -> x.saw(0, v), NONE));
            all.add(new Refused("by(" + v + ", 0)", x -> x.by(v, 0), NONE));
            all.add(new Refused("by(0, " + v + ")", x -> x.by(0, v), NONE));
            all.add(new Refused("sign(" + v + ", 0)", x -> x.sign(v, 0), NO_SUCH));
            all.add(new Refused("book(" + v + ", 0)", x -> x.book(v, 0), NO_SUCH));
        }
        for (int v : NO_GUEST) {
            all.add(new Refused("of(" + v + ", 0)", x -> x.of(v, 0), NO_SUCH));
            all.add(new Refused("hook(" + v + ")", x -> x.hook(v), NO_SUCH));
            all.add(new Refused("saw(" + v + ", 0)", x -> x.saw(v, 0), NONE));
            all.add(new Refused("ring(" + v + ")", x -> x.ring(v), NONE));
        }
        for (int v : new int[] {-1, 12, MIN, MAX}) {
            all.add(new Refused("of(0, " + v + ")", x -> x.of(0, v), NO_SUCH));
        }
        for (int v : new int[] {-1, 5, MIN, MAX}) {
            all.add(new Refused("sign(0, " + v + ")", x -> x.sign(0, v), NO_SUCH));
            all.add(new Refused("book(0, " + v + ")", x -> x.book(0, v), NO_SUCH));
        }
        for (int v : new int[] {-1, 4, MIN, MAX}) {
            all.add(new Refused("tellsOn(" + v + ")", x -> x.tellsOn(v), NONE));
        }
        for (int v : new int[] {-1, 3, MIN, MAX}) {
            all.add(new Refused("swapped(" + v + ")", x -> x.swapped(v), NONE));
        }
        for (int v : new int[] {-1, 14, MIN, MAX}) {
            all.add(new Refused("look(" + v + ")", x -> x.look(v), NONE));
        }
        return all;
    }

    private static List<Refused> asked() {
        about("16 to 34, 44: NONE if one can't be, or another what");
        List<Refused> all = new ArrayList<>();
        for (int v : NO_GUEST) {
            all.add(new Refused("next(" + v + ")", x -> x.next(v), NONE));
            all.add(new Refused("say(" + v + ", 1, 1)", x -> x.say(v, 1, 1), NONE));
            all.add(new Refused("counted(" + v + ", 1)", x -> x.counted(v, 1), NONE));
            all.add(new Refused("visit(" + v + ", 0)", x -> x.visit(v, 0), NONE));
            all.add(new Refused("looksAt(" + v + ", 0)", x -> x.looksAt(v, 0), NONE));
            all.add(new Refused("away(" + v + ", 1)", x -> x.away(v, 1), NONE));
            all.add(new Refused("many(" + v + ")", x -> x.many(v), NONE));
            all.add(new Refused("pair(" + v + ")", x -> x.pair(v), NONE));
            all.add(new Refused("lack(" + v + ")", x -> x.lack(v), NONE));
        }
        for (int v : new int[] {-1, 10000, MIN, MAX}) {
            all.add(new Refused("say(0, " + v + ", 1)", x -> x.say(0, v, 1), NONE));
            all.add(new Refused("say(0, 1, " + v + ")", x -> x.say(0, 1, v), NONE));
        }
        for (int v : new int[] {-1, 1001, MIN, MAX}) {
            all.add(new Refused("span(" + v + ", 0)", x -> x.span(v, 0), NONE));
        }
        for (int v : new int[] {-1, 2, MIN, MAX}) {
            all.add(new Refused("span(1, " + v + ")", x -> x.span(1, v), NONE));
            all.add(new Refused("visit(0, " + v + ")", x -> x.visit(0, v), NONE));
            all.add(new Refused("said(" + v + ")", x -> x.said(v), NONE));
            all.add(new Refused("busy(" + v + ")", x -> x.busy(v), NONE));
            all.add(new Refused("looksAt(1, " + v + ")", x -> x.looksAt(1, v), NONE));
        }
        for (int v : new int[] {-1, 4, 12, 13, MIN, MAX}) {
            all.add(new Refused("counted(0, " + v + ")", x -> x.counted(0, v), NONE));
        }
        for (int v : new int[] {-1, 4, MIN, MAX}) {
            all.add(new Refused("empty(" + v + ")", x -> x.empty(v), NONE));
        }
        for (int v : new int[] {-1, 49, MIN, MAX}) {
            all.add(new Refused("away(0, " + v + ")", x -> x.away(0, v), NONE));
        }
        all.add(new Refused("away of who is in", x -> x.away(2, 1), NONE));
        return all;
    }

    private static List<Refused> askedOfRooms() {
        about("24, 35, 36, 38, 40, 41: NONE if one can't be, or another what");
        List<Refused> all = new ArrayList<>();
        for (int v : new int[] {-1, 1000, MIN, MAX}) {
            all.add(new Refused("tagCost(" + v + ", 1, 1)", x -> x.tagCost(v, 1, 1), NONE));
            all.add(new Refused("tagCost(1, " + v + ", 1)", x -> x.tagCost(1, v, 1), NONE));
            all.add(new Refused("tag(" + v + ", 1)", x -> x.tag(v, 1), NONE));
            all.add(new Refused("tag(1, " + v + ")", x -> x.tag(1, v), NONE));
            all.add(new Refused("stands(" + v + ", 0)", x -> x.stands(v, 0), NONE));
        }
        for (int v : new int[] {-1, 21, MIN, MAX}) {
            all.add(new Refused("tagCost(1, 1, " + v + ")", x -> x.tagCost(1, 1, v), NONE));
        }
        for (int v : new int[] {-1, 1, MIN, MAX}) {
            all.add(new Refused("knocks(" + v + ")", x -> x.knocks(v), NONE));
        }
        for (int v : new int[] {-1, 2, MIN, MAX}) {
            all.add(new Refused("done(" + v + ")", x -> x.done(v), NONE));
        }
        for (int v : new int[] {-1, 0, 100, MIN, MAX}) {
            all.add(new Refused("fire(" + v + ", 0)", x -> x.fire(v, 0), NONE));
        }
        for (int v : new int[] {-1, 2, 9, 14, MIN, MAX}) {
            all.add(new Refused("fire(99, " + v + ")", x -> x.fire(99, v), NONE));
        }
        for (int v : new int[] {-1, 1, 9, 34, MIN, MAX}) {
            all.add(new Refused("stands(1, " + v + ")", x -> x.stands(1, v), NONE));
        }
        return all;
    }

    // ---- texts, which empty the tape ----

    private static void checkTexts() {
        about("10: NONE: no such one, or a FAULT (the TEXT stays as it was)");
        List<Long> want = seen(lived(), false);
        String[] bad = {"go 1;go 2", "sign in 1 out 1;sign in 0 out 1;", "clerk 0 from 0 for 1 at 0;clerk 0 from 24"};
        for (int k : new int[] {0, 1, 2, 3, -1, MIN, MAX}) {
            IsHeIn x = lived();
            x.end(0);
            due("text(" + k + ")", tell(x, k, k >= 0 && k < 3 ? bad[k] : "go 5;"), NONE);
            due("text(" + k + "), and nothing is changed", b(seen(x, false).equals(want)), 1);
        }
    }

    // ---- what is full, and what is empty ----

    private static IsHeIn filled() {
        IsHeIn x = house(12, "go 1000;come 1000;carry 0;");
        x.hours(13);
        for (int i = 0; i < 8; i++) {
            x.room(i, 1, 99, i);
            x.caller(i, i, 8);
        }
        write(x, " ".repeat(400));
        return x;
    }

    private static List<Long> seenOfFilled(IsHeIn x) {
        List<Long> all = new ArrayList<>();
        for (int what = 0; what < 14; what++) {
            all.add((long) x.look(what));
        }
        for (int g = 0; g < 12; g++) {
            for (int what = 0; what < 6; what++) {
                all.add((long) x.of(g, what));
            }
            all.add((long) x.hook(g));
        }
        for (int what = 0; what < 5; what++) {
            all.add((long) x.book(0, what));
            all.add((long) x.book(149, what));
            all.add((long) x.book(150, what));
        }
        for (int i = 0; i < 8; i++) {
            all.add((long) x.knocks(i));
        }
        all.add((long) x.done(0));
        all.add((long) x.done(1));
        all.add((long) x.said(0));
        all.add((long) x.said(1));
        all.add(b(x.end(400)));
        all.add((long) x.text(0));
        return all;
    }

    private static void checkFull() {
        about("3, 8, 27, 37: NONE, if there are twelve, eight, eight, or there would be more than 400");
        List<Long> want = seenOfFilled(filled());
        List<Refused> all = new ArrayList<>();
        all.add(new Refused("the thirteenth guest", x -> x.guest(0, 0), NONE));
        all.add(new Refused("the ninth room", x -> x.room(0, 1, 1, 1), NONE));
        all.add(new Refused("the ninth caller", x -> x.caller(0, 1, 1), NONE));
        all.add(new Refused("byte 401", x -> x.feed(-1, -1, -1, -1, -1), NONE));
        all.add(new Refused("hook 12", x -> b(x.hang(0, 12)), 0));
        all.add(new Refused("guest 12", x -> b(x.set(2, 12, 0)), 0));
        all.add(new Refused("end 401", x -> b(x.end(401)), 0));
        for (Refused r : all) {
            IsHeIn x = filled();
            due(r.what, r.call.on(x), r.due);
            due(r.what + ", and nothing is changed", b(seenOfFilled(x).equals(want)), 1);
        }
    }

    private static void checkEmpty() {
        about("1: Nobody: what needs a guest, a sign, a line, what is kept or an image is refused");
        List<Refused> all = new ArrayList<>();
        all.add(new Refused("set(2, 0, 1)", x -> b(x.set(2, 0, 1)), 0));
        all.add(new Refused("hang(0, 0)", x -> b(x.hang(0, 0)), 0));
        all.add(new Refused("looks(0, 0, 1)", x -> b(x.looks(0, 0, 1)), 0));
        all.add(new Refused("end(1)", x -> b(x.end(1)), 0));
        all.add(new Refused("caller(0, 0, 0)", x -> x.caller(0, 0, 0), NONE));
        all.add(new Refused("room(0, 1, 1, 1)", x -> x.room(0, 1, 1, 1), NONE));
        all.add(new Refused("undo()", x -> b(x.undo()), 0));
        all.add(new Refused("image(false)", x -> b(x.image(false)), 0));
        all.add(new Refused("next(0)", x -> x.next(0), NONE));
        all.add(new Refused("say(0, 0, 0)", x -> x.say(0, 0, 0), NONE));
        all.add(new Refused("counted(0, 0)", x -> x.counted(0, 0), NONE));
        all.add(new Refused("visit(0, 0)", x -> x.visit(0, 0), NONE));
        all.add(new Refused("thief()", x -> x.thief(), NONE));
        all.add(new Refused("saw(0, 0)", x -> x.saw(0, 0), NONE));
        all.add(new Refused("looksAt(0, 0)", x -> x.looksAt(0, 0), NONE));
        all.add(new Refused("pair(0)", x -> x.pair(0), NONE));
        all.add(new Refused("ring(0)", x -> x.ring(0), NONE));
        all.add(new Refused("knocks(0)", x -> x.knocks(0), NONE));
        all.add(new Refused("carries()", x -> x.carries(), NONE));
        all.add(new Refused("away(0, 0)", x -> x.away(0, 0), NONE));
        all.add(new Refused("fire(99, 10)", x -> x.fire(99, 10), NONE));
        for (Refused r : all) {
            IsHeIn x = new IsHeIn();
            due("nobody: " + r.what, r.call.on(x), r.due);
            for (int what = 0; what < 14; what++) {
                due("after " + r.what + ": look(" + what + ")", x.look(what), 0);
            }
        }
    }

    // ---- what is asked ----

    private static void nothingStays() {
        about("4: IN THOUGHT (nothing of it stays; no DRAWS)");
        Call[] calls = {x -> x.of(0, 5), x -> x.of(1, 11), x -> x.next(1), x -> x.say(0, 9999, 9999), x -> x.many(0),
            x -> x.many(1), x -> x.many(2), x -> x.span(1000, 0), x -> x.span(0, 1), x -> x.counted(2, 2), x -> x.visit(0, 0),
            x -> x.visit(2, 1), x -> x.empty(0), x -> x.empty(3), x -> x.thief(), x -> x.tagCost(999, 999, 20), x -> x.saw(0, 0),
            x -> x.saw(1, 1), x -> x.by(0, 0), x -> x.by(1, 1), x -> x.said(0), x -> x.said(1), x -> x.looksAt(1, 0),
            x -> x.looksAt(1, 1), x -> x.pair(0), x -> x.pair(1), x -> x.pair(2), x -> x.ring(0), x -> x.busy(0),
            x -> x.busy(1), x -> x.expect(), x -> x.lack(0), x -> x.lack(1), x -> x.lack(2), x -> x.knocks(0),
            x -> x.tag(999, 0), x -> x.tag(1, 999), x -> x.done(0), x -> x.done(1), x -> x.swapped(0), x -> x.swapped(1),
            x -> x.swapped(2), x -> x.fire(1, 0), x -> x.fire(99, 1), x -> x.fire(99, 10), x -> x.stands(0, 0),
            x -> x.stands(999, 33), x -> x.tellsOn(1), x -> x.carries(), x -> x.away(0, 0), x -> x.away(0, 48),
            x -> x.fault(0), x -> x.hook(1), x -> x.sign(1, 2), x -> x.book(0, 4), x -> x.look(7)};
        List<Long> want = seen(lived(), true);
        for (int i = 0; i < calls.length; i++) {
            IsHeIn x = lived();
            long first = calls[i].on(x);
            due("asked again, number " + i, calls[i].on(x), first);
            due("what is asked, number " + i + ", changes nothing", b(seen(x, true).equals(want)), 1);
        }
        IsHeIn x = lived();
        for (Call call : calls) {
            call.on(x);
        }
        due("all that is asked changes nothing", b(seen(x, true).equals(want)), 1);
    }
}
