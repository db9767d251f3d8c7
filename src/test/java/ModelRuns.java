import java.util.ArrayDeque;
import java.util.ArrayList;
import java.util.Arrays;
import java.util.Deque;
import java.util.HashSet;
import java.util.List;
import java.util.Random;
import java.util.Set;
import java.util.function.ToIntFunction;

/**
 * Runs of random calls on IsHeIn and on a second, naive telling of the document, written apart from it:
 * laws as trees, going back by copies of everything, and the best ways found by trying all of them.
 */
public final class ModelRuns {
    private static final int RUNS = 1500;
    private static final int CALLS = 500;

    public static void main(String[] args) {
        int first = args.length > 0 ? Integer.parseInt(args[0]) : 1;
        int runs = args.length > 1 ? Integer.parseInt(args[1]) : RUNS;
        int wrong = 0;
        for (int seed = first; seed < first + runs; seed++) {
            wrong += new Run(seed).go() ? 0 : 1;
            if (wrong >= 5) {
                break;
            }
        }
        System.out.println(wrong == 0 ? runs + " runs are as in the model" : wrong + " runs are not as in the model");
        if (wrong != 0) {
            System.exit(1);
        }
    }

    // ------------------------------------------------------------------ the runs

    private static final class Run {
        private final int seed;
        private final Random r;
        private final IsHeIn real = new IsHeIn();
        private final Model model = new Model();
        private final List<String> told = new ArrayList<>();
        private boolean good = true;

        Run(int seed) {
            this.seed = seed;
            this.r = new Random(seed);
        }

        boolean go() {
            try {
                int guests = r.nextInt(10) == 0 ? r.nextInt(2) : 1 + r.nextInt(12);
                state(r.nextInt());
                for (int i = 0; i < guests; i++) {
                    guest(r.nextInt(4), r.nextInt(100));
                }
                for (int k = 0; k < 3; k++) {
                    if (r.nextInt(5) != 0) {
                        text(k, Texts.good(r, k), 0);
                    }
                }
                if (r.nextInt(12) == 0) {
                    growOld();
                }
                while (told.size() < CALLS - 40 && good) {
                    step();
                }
            } catch (RuntimeException e) {
                good = false;
                System.out.println("run " + seed + ": " + e + " at " + told.get(told.size() - 1));
            }
            return good;
        }

        /** Goes on to the last hours that there are. */
        private void growOld() {
            int left = 9999 - r.nextInt(60);
            for (int n = Math.min(left, 60); n > 0; n = Math.min(left, 60)) {
                due("hours(" + n + ")", real.hours(n), model.hours(n));
                left -= n;
            }
        }

        private void due(String call, long got, long want) {
            told.add(call);
            if (got != want && good) {
                good = false;
                System.out.println("run " + seed + ", call " + told.size() + ": " + call + " answered " + got
                    + ", due is " + want + "; before it:");
                for (int i = Math.max(0, told.size() - 12); i < told.size(); i++) {
                    System.out.println("    " + told.get(i));
                }
            }
        }

        private long b(boolean is) {
            return is ? 1 : 0;
        }

        private int wild(int low, int high) {
            int pick = r.nextInt(30);
            if (pick == 0) {
                return r.nextInt();
            }
            if (pick == 1) {
                return low - 1;
            }
            if (pick == 2) {
                return high + 1;
            }
            if (pick == 3) {
                return new int[] {Integer.MIN_VALUE, Integer.MAX_VALUE, -1, 0, low, high}[r.nextInt(6)];
            }
            return low + r.nextInt(Math.max(1, high - low + 1));
        }

        private int who() {
            return wild(0, Math.max(0, model.now.guests.size() - 1));
        }

        private int sign() {
            return wild(0, Math.max(0, model.now.signs.size() - 1));
        }

        private void state(int v) {
            due("state(" + v + ")", real.state(v), model.state(v));
        }

        private void guest(int floor, int age) {
            due("guest(" + floor + ", " + age + ")", real.guest(floor, age), model.guest(floor, age));
        }

        private void text(int k, String text, int spoil) {
            int[] bytes = text.chars().toArray();
            int at = 0;
            while (at < bytes.length) {
                int[] n = new int[5];
                for (int i = 0; i < 20; i++) {
                    int v = at + i < bytes.length ? bytes[at + i] : 32;
                    n[i / 4] = n[i / 4] << 8 | v;
                }
                at += 20;
                due("feed(" + n[0] + ", " + n[1] + ", " + n[2] + ", " + n[3] + ", " + n[4] + ")",
                    real.feed(n[0], n[1], n[2], n[3], n[4]), model.feed(n));
            }
            int cut = bytes.length - spoil;
            due("end(" + cut + ")", b(real.end(cut)), b(model.end(cut)));
            due("text(" + k + ") of " + text, real.text(k), model.text(k));
            due("fault(0)", real.fault(0), model.fault(0));
            due("fault(1)", real.fault(1), model.fault(1));
        }

        private void step() {
            int pick = r.nextInt(100);
            if (pick < 14) {
                change();
            } else if (pick < 18) {
                tell();
            } else if (pick < 20) {
                text(wild(0, 2), Texts.any(r), r.nextInt(8) == 0 ? r.nextInt(3) : 0);
            } else {
                ask(r.nextInt(40));
            }
        }

        private void change() {
            int a = who();
            int c = who();
            switch (r.nextInt(7)) {
                case 0:
                case 1: {
                    int n = r.nextInt(12) == 0 ? wild(1, 60) : 1 + r.nextInt(4);
                    due("hours(" + n + ")", real.hours(n), model.hours(n));
                    break;
                }
                case 2:
                    due("hang(" + a + ", " + c + ")", b(real.hang(a, c)), b(model.hang(a, c)));
                    break;
                case 3:
                case 4: {
                    int s = sign();
                    int v = wild(-1, 1);
                    due("looks(" + a + ", " + s + ", " + v + ")", b(real.looks(a, s, v)), b(model.looks(a, s, v)));
                    break;
                }
                default:
                    due("undo()", b(real.undo()), b(model.undo()));
                    break;
            }
            for (int i = 0; i < 3; i++) {
                int what = r.nextInt(14);
                due("look(" + what + ")", real.look(what), model.look(what));
            }
        }

        private void tell() {
            int a = r.nextInt(10) == 0 ? -1 : who();
            int x = wild(0, 999);
            int y = wild(0, 999);
            switch (r.nextInt(9)) {
                case 0:
                    due("caller(" + a + ", " + x + ", " + y + ")", real.caller(a, x, y), model.caller(a, x, y));
                    break;
                case 1:
                case 2: {
                    int minutes = wild(1, 99);
                    int by = r.nextBoolean() ? wild(1, 999) : wild(1, 200);
                    int worth = wild(0, r.nextBoolean() ? 99 : 5);
                    due("room(" + a + ", " + minutes + ", " + by + ", " + worth + ")",
                        real.room(a, minutes, by, worth), model.room(a, minutes, by, worth));
                    break;
                }
                case 3: {
                    int what = wild(0, 2);
                    int v = wild(0, new int[] {20, 9, 99, 5}[Math.max(0, Math.min(what, 3))]);
                    due("set(" + what + ", " + a + ", " + v + ")", b(real.set(what, a, v)), b(model.set(what, a, v)));
                    break;
                }
                case 4:
                    due("image(true)", b(real.image(true)), b(model.image(true)));
                    break;
                case 5:
                    due("image(false)", b(real.image(false)), b(model.image(false)));
                    break;
                case 6:
                    if (r.nextInt(4) == 0) {
                        guest(wild(0, 3), wild(0, 99));
                    }
                    break;
                case 7:
                    if (r.nextInt(4) == 0) {
                        state(r.nextInt());
                    }
                    break;
                default: {
                    int k = r.nextInt(3);
                    text(k, Texts.good(r, k), 0);
                    break;
                }
            }
        }

        private void ask(int which) {
            int a = who();
            int x = r.nextInt(4) == 0 ? wild(0, 3) : wild(0, 999);
            int y = r.nextInt(4) == 0 ? wild(0, 3) : wild(0, 999);
            switch (which) {
                case 0: case 1: case 2: {
                    int what = wild(0, 11);
                    due("of(" + a + ", " + what + ")", real.of(a, what), model.of(a, what));
                    break;
                }
                case 3:
                    due("hook(" + a + ")", real.hook(a), model.hook(a));
                    break;
                case 4: {
                    int s = sign();
                    int what = wild(0, 14);
                    due("sign(" + s + ", " + what + ")", real.sign(s, what), model.sign(s, what));
                    break;
                }
                case 5: {
                    int i = wild(0, Math.max(0, model.now.book.size() - 1));
                    int what = wild(0, 4);
                    due("book(" + i + ", " + what + ")", real.book(i, what), model.book(i, what));
                    break;
                }
                case 6:
                    due("next(" + a + ")", real.next(a), model.next(a));
                    break;
                case 7: {
                    int u = wild(0, 9999);
                    int v = r.nextBoolean() ? wild(0, 9999) : u * r.nextInt(20);
                    due("say(" + a + ", " + u + ", " + v + ")", real.say(a, u, v), model.say(a, u, v));
                    break;
                }
                case 8: {
                    int what = wild(0, 2);
                    due("many(" + what + ")", real.many(what), model.many(what));
                    break;
                }
                case 9: {
                    int p = wild(0, 1000);
                    int what = wild(0, 1);
                    due("span(" + p + ", " + what + ")", real.span(p, what), model.span(p, what));
                    break;
                }
                case 10: case 11: {
                    int c = wild(0, 12);
                    due("counted(" + a + ", " + c + ")", real.counted(a, c), model.counted(a, c));
                    break;
                }
                case 12: {
                    int what = wild(0, 1);
                    due("visit(" + a + ", " + what + ")", real.visit(a, what), model.visit(a, what));
                    break;
                }
                case 13: {
                    int f = wild(0, 3);
                    due("empty(" + f + ")", real.empty(f), model.empty(f));
                    break;
                }
                case 14:
                    due("thief()", real.thief(), model.thief());
                    break;
                case 15: {
                    int w = wild(0, 20);
                    due("tagCost(" + x + ", " + y + ", " + w + ")", real.tagCost(x, y, w), model.tagCost(x, y, w));
                    break;
                }
                case 16: {
                    int what = wild(0, 1);
                    due("saw(" + a + ", " + what + ")", real.saw(a, what), model.saw(a, what));
                    break;
                }
                case 17: {
                    int door = wild(0, 1);
                    int what = wild(0, 1);
                    due("by(" + door + ", " + what + ")", real.by(door, what), model.by(door, what));
                    break;
                }
                case 18: case 19: {
                    int what = wild(0, 1);
                    due("said(" + what + ")", real.said(what), model.said(what));
                    break;
                }
                case 20: case 21: {
                    int i = wild(0, 5);
                    due("looksAt(" + a + ", " + i + ")", real.looksAt(a, i), model.looksAt(a, i));
                    break;
                }
                case 22: {
                    int what = wild(0, 2);
                    due("pair(" + what + ")", real.pair(what), model.pair(what));
                    break;
                }
                case 23:
                    due("ring(" + a + ")", real.ring(a), model.ring(a));
                    break;
                case 24: {
                    int what = wild(0, 1);
                    due("busy(" + what + ")", real.busy(what), model.busy(what));
                    break;
                }
                case 25:
                    due("expect()", real.expect(), model.expect());
                    break;
                case 26: {
                    int what = wild(0, 2);
                    due("lack(" + what + ")", real.lack(what), model.lack(what));
                    break;
                }
                case 27: {
                    int i = wild(0, 7);
                    due("knocks(" + i + ")", real.knocks(i), model.knocks(i));
                    break;
                }
                case 28:
                    due("tag(" + x + ", " + y + ")", real.tag(x, y), model.tag(x, y));
                    break;
                case 29: case 30: {
                    int what = wild(0, 1);
                    due("done(" + what + ")", real.done(what), model.done(what));
                    break;
                }
                case 31: {
                    int what = wild(0, 2);
                    due("swapped(" + what + ")", real.swapped(what), model.swapped(what));
                    break;
                }
                case 32: case 33: {
                    int m = r.nextBoolean() ? wild(1, 99) : wild(1, 25);
                    int what = r.nextInt(3) == 0 ? wild(0, 13) : r.nextBoolean() ? r.nextInt(2) : 10 + r.nextInt(4);
                    due("fire(" + m + ", " + what + ")", real.fire(m, what), model.fire(m, what));
                    break;
                }
                case 34: case 35: {
                    int what = r.nextInt(3) == 0 ? wild(0, 34) : r.nextInt(4) == 0 ? 0 : wild(10, 33);
                    due("stands(" + x + ", " + what + ")", real.stands(x, what), model.stands(x, what));
                    break;
                }
                case 36: {
                    int c = wild(0, 3);
                    due("tellsOn(" + c + ")", real.tellsOn(c), model.tellsOn(c));
                    break;
                }
                case 37:
                    due("carries()", real.carries(), model.carries());
                    break;
                case 38: {
                    int n = r.nextBoolean() ? wild(0, 48) : wild(0, 5);
                    due("away(" + a + ", " + n + ")", real.away(a, n), model.away(a, n));
                    break;
                }
                default: {
                    int what = wild(0, 13);
                    due("look(" + what + ")", real.look(what), model.look(what));
                    due("fault(" + what + ")", real.fault(what), model.fault(what));
                    break;
                }
            }
        }
    }

    // ------------------------------------------------------------------ texts for the runs

    private static final class Texts {
        private static final String[] WORDS = {"go", "come", "carry", "stray", "front", "prior"};
        private static final String[] NAMES = {"guest", "floor", "age", "clock", "day", "pear", "rain", "board", "since"};
        private static final String[] SCRAPS = {"go", "come", "carry", "stray", "front", "prior", "guest", "floor",
            "age", "clock", "day", "pear", "rain", "board", "since", "when", "or", "and", "not", "sign", "in", "out",
            "clerk", "from", "for", "at", ";", "+", "-", "*", "/", "(", ")", "<", "=", ">", "0", "1", "12", "999",
            "1000", "9999", "10000", "x", "Go", ".", "\n", "\t", "24", "3", "4", " ", "not not", "(("};

        static String good(Random r, int k) {
            String text = "";
            int lines = r.nextInt(k == 0 ? 12 : k == 1 ? 7 : 13);
            for (int i = 0; i < lines; i++) {
                String line = line(r, k);
                if (text.length() + line.length() <= 380) {
                    text += line;
                }
            }
            return text;
        }

        static String any(Random r) {
            if (r.nextInt(6) == 0) {
                return many(r);
            }
            String text = good(r, r.nextInt(3));
            int spoils = r.nextInt(3);
            for (int i = 0; i < spoils; i++) {
                int at = r.nextInt(text.length() + 1);
                int to = r.nextBoolean() ? at : Math.min(text.length(), at + 1 + r.nextInt(4));
                String scrap = r.nextInt(3) == 0 ? "" : SCRAPS[r.nextInt(SCRAPS.length)];
                text = text.substring(0, at) + scrap + text.substring(to);
            }
            return text.length() > 400 ? text.substring(0, 400) : text;
        }

        /** More lines, or more that is open, than may be. */
        private static String many(Random r) {
            StringBuilder text = new StringBuilder();
            switch (r.nextInt(4)) {
                case 0:
                    for (int i = 0; i < 15 + r.nextInt(4); i++) {
                        text.append("go ").append(i).append(';');
                    }
                    break;
                case 1:
                    for (int i = 0; i < 5 + r.nextInt(4); i++) {
                        text.append("sign in 5 out 6;");
                    }
                    break;
                case 2:
                    for (int i = 0; i < 11 + r.nextInt(4); i++) {
                        text.append("clerk 1 from 2 for 3 at 1;");
                    }
                    break;
                default:
                    int open = 7 + r.nextInt(3);
                    int closing = 0;
                    text.append("go 7 when ");
                    for (int i = 0; i < open; i++) {
                        boolean isNot = r.nextBoolean();
                        text.append(isNot ? "not " : "(");
                        closing += isNot ? 0 : 1;
                    }
                    text.append("age<50");
                    for (int i = 0; i < closing; i++) {
                        text.append(')');
                    }
                    text.append(" or 1=1;");
                    break;
            }
            return text.length() > 400 ? text.substring(0, 400) : text.toString();
        }

        private static String line(Random r, int k) {
            if (k == 1) {
                return "sign in " + (1 + r.nextInt(999)) + " out " + (1 + r.nextInt(r.nextBoolean() ? 999 : 3)) + ";";
            }
            if (k == 2) {
                return "clerk " + r.nextInt(4) + " from " + r.nextInt(24) + " for " + (1 + r.nextInt(24))
                    + " at " + r.nextInt(2) + ";";
            }
            String when = r.nextInt(3) == 0 ? "" : " when " + any(r, 0);
            String sum = r.nextInt(3) == 0 ? "" + r.nextInt(1001) : sum(r);
            return WORDS[r.nextInt(6)] + " " + sum + when + ";" + (r.nextInt(9) == 0 ? "\n" : "");
        }

        private static String any(Random r, int depth) {
            return r.nextInt(4) == 0 ? all(r, depth) + " or " + any(r, depth) : all(r, depth);
        }

        private static String all(Random r, int depth) {
            return r.nextInt(4) == 0 ? one(r, depth) + " and " + all(r, depth) : one(r, depth);
        }

        private static String one(Random r, int depth) {
            int pick = depth > 3 ? 9 : r.nextInt(8);
            if (pick == 0) {
                return "not " + one(r, depth + 1);
            }
            if (pick == 1) {
                return "(" + any(r, depth + 1) + ")";
            }
            return side(r) + "<=>".charAt(r.nextInt(3)) + side(r);
        }

        private static String side(Random r) {
            return r.nextInt(3) == 0 ? sum(r) : r.nextBoolean() ? NAMES[r.nextInt(9)] : "" + r.nextInt(20);
        }

        private static String sum(Random r) {
            StringBuilder text = new StringBuilder(unit(r));
            for (int i = r.nextInt(4); i > 0; i--) {
                char mark = "+-*/".charAt(r.nextInt(4));
                text.append(mark).append(mark == '/' ? "" + (1 + r.nextInt(30)) : unit(r));
            }
            return text.toString();
        }

        private static String unit(Random r) {
            return r.nextInt(3) == 0 ? "" + r.nextInt(r.nextInt(4) == 0 ? 10000 : 600) : NAMES[r.nextInt(9)];
        }
    }

    // ------------------------------------------------------------------ the law, as a tree

    private interface Sum {
        int of(int[] known);
    }

    private interface Whether {
        boolean of(int[] known);
    }

    private record Line(int word, Sum sum, Whether when) { }

    private record Token(String text, int place) { }

    private static final class Fault extends RuntimeException {
        private static final long serialVersionUID = 1L;
        final int why;
        final int place;

        Fault(int why, int place) {
            this.why = why;
            this.place = place;
        }
    }

    private static final class Parser {
        private static final List<String> LAW_WORDS = List.of("go", "come", "carry", "stray", "front", "prior");
        private static final List<String> NAMES =
            List.of("guest", "floor", "age", "clock", "day", "pear", "rain", "board", "since");
        private final List<Token> tokens = new ArrayList<>();
        private int at = 0;

        Parser(String text) {
            int i = 0;
            while (i < text.length()) {
                char c = text.charAt(i);
                int from = i;
                i++;
                if (c == ' ' || c == '\n') {
                    continue;
                }
                boolean letter = isLetter(c);
                if (letter || isDigit(c)) {
                    while (i < text.length() && (letter ? isLetter(text.charAt(i)) : isDigit(text.charAt(i)))) {
                        i++;
                    }
                }
                tokens.add(new Token(text.substring(from, i), from));
            }
            tokens.add(new Token("", text.length()));
        }

        private static boolean isLetter(char c) {
            return "abcdefghijklmnopqrstuvwxyzABCDEFGHIJKLMNOPQRSTUVWXYZ".indexOf(c) >= 0;
        }

        private static boolean isDigit(char c) {
            return "0123456789".indexOf(c) >= 0;
        }

        private Token peek() {
            return tokens.get(at);
        }

        private boolean is(String text) {
            return peek().text.equals(text);
        }

        private Fault fault(int why) {
            return new Fault(why, peek().place);
        }

        private void need(String text) {
            if (!is(text)) {
                throw fault(1);
            }
            at++;
        }

        private int number() {
            if (!peek().text.matches("[0-9]{1,4}")) {
                throw fault(1);
            }
            return Integer.parseInt(peek().text);
        }

        private int number(int low, int high) {
            int n = number();
            if (n < low || n > high) {
                throw fault(2);
            }
            at++;
            return n;
        }

        List<Line> law() {
            List<Line> lines = new ArrayList<>();
            while (!is("")) {
                int word = LAW_WORDS.indexOf(peek().text);
                if (word < 0) {
                    throw fault(1);
                }
                if (lines.size() == 16) {
                    throw fault(3);
                }
                at++;
                Sum sum = sum();
                Whether when = known -> true;
                if (is("when")) {
                    at++;
                    when = any(0);
                }
                need(";");
                lines.add(new Line(word, sum, when));
            }
            return lines;
        }

        List<int[]> signs() {
            List<int[]> signs = new ArrayList<>();
            while (!is("")) {
                if (is("sign") && signs.size() == 6) {
                    throw fault(3);
                }
                need("sign");
                need("in");
                int in = number(1, 999);
                need("out");
                int out = number(1, 999);
                need(";");
                signs.add(new int[] {in, out});
            }
            return signs;
        }

        List<int[]> shifts() {
            List<int[]> shifts = new ArrayList<>();
            while (!is("")) {
                if (is("clerk") && shifts.size() == 12) {
                    throw fault(3);
                }
                need("clerk");
                int clerk = number(0, 3);
                need("from");
                int from = number(0, 23);
                need("for");
                int hours = number(1, 24);
                need("at");
                int door = number(0, 1);
                need(";");
                shifts.add(new int[] {clerk, from, hours, door});
            }
            return shifts;
        }

        private Sum sum() {
            Sum sum = product();
            while (is("+") || is("-")) {
                boolean plus = is("+");
                at++;
                Sum left = sum;
                Sum right = product();
                sum = plus ? known -> left.of(known) + right.of(known) : known -> left.of(known) - right.of(known);
            }
            return sum;
        }

        private Sum product() {
            Sum product = unit();
            while (is("*") || is("/")) {
                Sum left = product;
                boolean times = is("*");
                at++;
                if (times) {
                    Sum right = unit();
                    product = known -> left.of(known) * right.of(known);
                } else {
                    int part = number();
                    if (part == 0) {
                        throw fault(2);
                    }
                    at++;
                    product = known -> left.of(known) / part;
                }
            }
            return product;
        }

        private Sum unit() {
            int name = NAMES.indexOf(peek().text);
            if (name >= 0) {
                at++;
                return known -> known[name];
            }
            int n = number();
            at++;
            return known -> n;
        }

        private Whether any(int open) {
            Whether all = all(open);
            while (is("or")) {
                at++;
                Whether left = all;
                Whether right = all(open);
                all = known -> left.of(known) || right.of(known);
            }
            return all;
        }

        private Whether all(int open) {
            Whether one = one(open);
            while (is("and")) {
                at++;
                Whether left = one;
                Whether right = one(open);
                one = known -> left.of(known) && right.of(known);
            }
            return one;
        }

        private Whether one(int open) {
            if ((is("not") || is("(")) && open == 8) {
                throw fault(3);
            }
            if (is("not")) {
                at++;
                Whether one = one(open + 1);
                return known -> !one.of(known);
            }
            if (is("(")) {
                at++;
                Whether any = any(open + 1);
                need(")");
                return any;
            }
            Sum left = sum();
            String mark = peek().text;
            if (!mark.equals("<") && !mark.equals("=") && !mark.equals(">")) {
                throw fault(1);
            }
            at++;
            Sum right = sum();
            return known -> {
                int c = Integer.compare(left.of(known), right.of(known));
                return mark.equals("<") ? c < 0 : mark.equals("=") ? c == 0 : c > 0;
            };
        }
    }

    // ------------------------------------------------------------------ the model

    private static final class Guest {
        int floor;
        int age;
        boolean out = false;
        int key = -1;
        int since = 0;
        int[] seen = {-1, -1, -1, -1, -1, -1};

        Guest copy() {
            Guest g = new Guest();
            g.floor = floor;
            g.age = age;
            g.out = out;
            g.key = key;
            g.since = since;
            g.seen = seen.clone();
            return g;
        }
    }

    private static final class All {
        List<Guest> guests = new ArrayList<>();
        int pear = 0;
        int rain = 0;
        int hour = 0;
        int draws = 0;
        List<int[]> book = new ArrayList<>();
        List<Line> law = new ArrayList<>();
        List<int[]> signs = new ArrayList<>();
        List<int[]> shifts = new ArrayList<>();
        List<int[]> rooms = new ArrayList<>();
        List<int[]> callers = new ArrayList<>();

        All copy() {
            All a = new All();
            for (Guest g : guests) {
                a.guests.add(g.copy());
            }
            a.pear = pear;
            a.rain = rain;
            a.hour = hour;
            a.draws = draws;
            a.book.addAll(book);
            a.law = law;
            a.signs = signs;
            a.shifts = shifts;
            a.rooms.addAll(rooms);
            a.callers.addAll(callers);
            return a;
        }
    }

    private static final class Model {
        private static final long M = 1000000;
        All now = new All();
        private All image = null;
        private final Deque<All> past = new ArrayDeque<>();
        private final StringBuilder tape = new StringBuilder();
        private int fault = 0;
        private int faultPlace = -1;

        private static boolean in(int v, int low, int high) {
            return low <= v && v <= high;
        }

        private boolean isGuest(int g) {
            return in(g, 0, now.guests.size() - 1);
        }

        private void remember() {
            past.addLast(now.copy());
            if (past.size() > 6) {
                past.removeFirst();
            }
        }

        int state(int v) {
            int was = now.draws;
            now.draws = v;
            past.clear();
            return was;
        }

        int guest(int floor, int age) {
            if (now.guests.size() == 12 || !in(floor, 0, 3) || !in(age, 0, 99)) {
                return -1;
            }
            Guest g = new Guest();
            g.floor = floor;
            g.age = age;
            now.guests.add(g);
            past.clear();
            return now.guests.size() - 1;
        }

        boolean set(int what, int who, int v) {
            if (what == 0 && in(v, 0, 20)) {
                now.pear = v;
            } else if (what == 1 && in(v, 0, 9)) {
                now.rain = v;
            } else if (what == 2 && isGuest(who) && in(v, 0, 99)) {
                now.guests.get(who).age = v;
            } else {
                return false;
            }
            past.clear();
            return true;
        }

        private void write(int... line) {
            if (now.book.size() < 150) {
                now.book.add(line);
            }
        }

        boolean hang(int guest, int hook) {
            if (!isGuest(guest) || !isGuest(hook) || !now.guests.get(guest).out || hook(hook) != -1) {
                return false;
            }
            remember();
            now.guests.get(guest).key = hook;
            write(now.hour, 2, guest, hook, -1);
            return true;
        }

        boolean looks(int guest, int sign, int seen) {
            if (!isGuest(guest) || !in(sign, 0, now.signs.size() - 1) || !in(seen, -1, 1)
                    || now.guests.get(guest).seen[sign] == seen) {
                return false;
            }
            remember();
            now.guests.get(guest).seen[sign] = seen;
            return true;
        }

        private int draw() {
            now.draws = 1664525 * now.draws + 1013904223;
            return (int) (((long) now.draws & 0xffffffffL) / 256 % 1000);
        }

        private int clerk(int door) {
            for (int[] s : now.shifts) {
                for (int i = 0; i < s[2]; i++) {
                    if ((s[1] + i) % 24 == now.hour % 24 && s[3] == door) {
                        return s[0];
                    }
                }
            }
            return -1;
        }

        int hours(int n) {
            if (!in(n, 1, 60) || now.hour + n > 9999) {
                return -1;
            }
            int moves = 0;
            for (int i = 0; i < n; i++) {
                remember();
                for (int g = 0; g < now.guests.size(); g++) {
                    moves += turn(g) ? 1 : 0;
                }
                now.hour++;
            }
            return moves;
        }

        private boolean turn(int g) {
            Guest him = now.guests.get(g);
            int[] told = new int[5];
            for (int w = 0; w < 5; w++) {
                told[w] = law(g, w);
            }
            if (draw() >= (him.out ? told[1] : told[0])) {
                him.since = Math.min(999, him.since + 1);
                return false;
            }
            int door = draw() < told[4] ? 0 : 1;
            if (him.out) {
                him.out = false;
                him.key = -1;
                write(now.hour, 1, g, door, clerk(door));
            } else {
                him.out = true;
                if (draw() >= told[2]) {
                    int next = (g + 1) % now.guests.size();
                    boolean strays = draw() < told[3];
                    if (strays && hook(next) == -1) {
                        him.key = next;
                    } else if (hook(g) == -1) {
                        him.key = g;
                    }
                }
                write(now.hour, 0, g, door, clerk(door));
            }
            him.since = 0;
            return true;
        }

        int feed(int[] n) {
            if (tape.length() > 380) {
                return -1;
            }
            for (int v : n) {
                for (int i = 3; i >= 0; i--) {
                    tape.append((char) (v >> 8 * i & 255));
                }
            }
            return tape.length();
        }

        boolean end(int n) {
            if (n < 0 || n > tape.length()) {
                return false;
            }
            tape.setLength(n);
            return true;
        }

        int text(int k) {
            String text = tape.toString();
            tape.setLength(0);
            fault = 0;
            faultPlace = -1;
            try {
                if (k == 0) {
                    now.law = new Parser(text).law();
                    return now.law.size();
                }
                if (k == 1) {
                    now.signs = new Parser(text).signs();
                    for (Guest g : now.guests) {
                        Arrays.fill(g.seen, -1);
                    }
                    past.clear();
                    return now.signs.size();
                }
                if (k == 2) {
                    now.shifts = new Parser(text).shifts();
                    past.clear();
                    return now.shifts.size();
                }
                return -1;
            } catch (Fault f) {
                fault = f.why;
                faultPlace = f.place;
                return -1;
            }
        }

        int fault(int what) {
            return what == 0 ? fault : what == 1 ? faultPlace : -1;
        }

        private int[] known(int g) {
            Guest him = now.guests.get(g);
            return new int[] {g, him.floor, him.age, now.hour % 24, now.hour / 24, now.pear, now.rain,
                him.key < 0 ? 0 : 1, him.since};
        }

        private int law(int g, int word) {
            return law(known(g), word);
        }

        private int law(int[] known, int word) {
            for (Line line : now.law) {
                if (line.word == word && line.when.of(known)) {
                    return Math.max(0, Math.min(1000, line.sum.of(known)));
                }
            }
            return word == 5 ? known[7] == 0 ? 900 : 100 : new int[] {100, 200, 300, 0, 500}[word];
        }

        private int law(int g, int word, int name, int v) {
            int[] known = known(g);
            known[name] = v;
            return law(known, word);
        }

        private int[] atHour(int g, int hour) {
            int[] known = known(g);
            known[3] = hour % 24;
            known[4] = hour / 24;
            return known;
        }

        int of(int guest, int what) {
            if (!isGuest(guest) || !in(what, 0, 11)) {
                return -2;
            }
            Guest him = now.guests.get(guest);
            int[] plain = {him.floor, him.age, him.out ? 1 : 0, him.key, him.since};
            return what < 5 ? plain[what] : what == 5 ? (int) sure(guest) : law(guest, what - 6);
        }

        int hook(int i) {
            if (!isGuest(i)) {
                return -2;
            }
            for (int g = 0; g < now.guests.size(); g++) {
                if (now.guests.get(g).key == i) {
                    return g;
                }
            }
            return -1;
        }

        int sign(int i, int what) {
            if (!in(i, 0, now.signs.size() - 1)) {
                return -2;
            }
            if (what == 0 || what == 1) {
                return now.signs.get(i)[what];
            }
            return what >= 2 && isGuest(what - 2) ? now.guests.get(what - 2).seen[i] : -2;
        }

        int book(int i, int what) {
            return in(i, 0, now.book.size() - 1) && in(what, 0, 4) ? now.book.get(i)[what] : -2;
        }

        private long after(long p, int sign, boolean seen) {
            long a = now.signs.get(sign)[0];
            long b = now.signs.get(sign)[1];
            if (!seen) {
                a = 1000 - a;
                b = 1000 - b;
            }
            return M * (p * a) / (p * a + (M - p) * b);
        }

        private long sure(int g) {
            return sure(g, now.guests.get(g).seen);
        }

        private long sure(int g, int[] seen) {
            long p = law(g, 5) * 1000;
            for (int s = 0; s < now.signs.size(); s++) {
                if (seen[s] != -1) {
                    p = after(p, s, seen[s] == 1);
                }
            }
            return p;
        }

        private long chance(long p, int sign) {
            return (p * now.signs.get(sign)[0] + (M - p) * now.signs.get(sign)[1]) / 1000;
        }

        private int next(int g, int[] seen) {
            long p = sure(g, seen);
            long most = -1;
            int best = -1;
            for (int s = now.signs.size() - 1; s >= 0; s--) {
                if (seen[s] == -1) {
                    long yes = after(p, s, true);
                    long no = after(p, s, false);
                    long c = chance(p, s);
                    long v = c * Math.max(yes, M - yes) + (M - c) * Math.max(no, M - no);
                    if (v >= most) {
                        most = v;
                        best = s;
                    }
                }
            }
            return best;
        }

        int next(int g) {
            return isGuest(g) ? next(g, now.guests.get(g).seen) : -1;
        }

        int looksAt(int g, int i) {
            if (!isGuest(g)) {
                return -1;
            }
            int[] seen = now.guests.get(g).seen.clone();
            List<Integer> order = new ArrayList<>();
            for (int s = next(g, seen); s != -1; s = next(g, seen)) {
                order.add(s);
                seen[s] = chance(sure(g, seen), s) >= 500000 ? 1 : 0;
            }
            return in(i, 0, order.size() - 1) ? order.get(i) : -1;
        }

        int say(int g, int x, int y) {
            if (!isGuest(g) || !in(x, 0, 9999) || !in(y, 0, 9999)) {
                return -1;
            }
            return (M - sure(g)) * x > sure(g) * y ? 0 : 1;
        }

        private long[] chances(int without) {
            long[] c = {M, 0, 0, 0, 0, 0, 0, 0, 0, 0, 0, 0, 0, 0};
            for (int g = 0; g < now.guests.size(); g++) {
                if (g != without) {
                    long p = sure(g);
                    long[] d = new long[14];
                    for (int k = 0; k < 14; k++) {
                        d[k] = c[k] * (M - p) / M + (k == 0 ? 0 : c[k - 1] * p / M);
                    }
                    c = d;
                }
            }
            return c;
        }

        int many(int what) {
            if (what == 0) {
                long sum = 0;
                for (int g = 0; g < now.guests.size(); g++) {
                    sum += sure(g);
                }
                return (int) (sum / M);
            }
            long[] c = chances(-1);
            int best = now.guests.size();
            for (int k = best; k >= 0; k--) {
                best = c[k] >= c[best] ? k : best;
            }
            return what == 1 ? best : what == 2 ? (int) c[best] : -1;
        }

        int span(int p, int what) {
            if (!in(p, 0, 1000) || !in(what, 0, 1)) {
                return -1;
            }
            long[] c = chances(-1);
            int[] best = null;
            for (int a = 0; a <= now.guests.size(); a++) {
                for (int b = a; b <= now.guests.size(); b++) {
                    long sum = 0;
                    for (int k = a; k <= b; k++) {
                        sum += c[k];
                    }
                    if (sum >= p * 1000L && (best == null || b - a < best[1] - best[0])) {
                        best = new int[] {a, b};
                    }
                }
            }
            return best == null ? -1 : best[what];
        }

        int counted(int g, int c) {
            if (!isGuest(g) || !in(c, 0, 12)) {
                return -1;
            }
            long[] others = chances(g);
            long p = sure(g);
            long with = c == 0 ? 0 : p * others[c - 1];
            long without = (M - p) * others[c];
            return with == 0 && without == 0 ? -1 : (int) (M * with / (with + without));
        }

        int visit(int g, int what) {
            if (!isGuest(g) || !in(what, 0, 1)) {
                return -1;
            }
            long[] p = new long[24];
            p[0] = sure(g);
            int best = 0;
            for (int k = 0; k < 23; k++) {
                int[] known = atHour(g, now.hour + k);
                p[k + 1] = p[k] - p[k] * law(known, 0) / 1000 + (M - p[k]) * law(known, 1) / 1000;
                best = p[k + 1] > p[best] ? k + 1 : best;
            }
            return what == 0 ? best : (int) p[best];
        }

        int empty(int floor) {
            if (!in(floor, 0, 3)) {
                return -1;
            }
            long chance = M;
            for (int g = 0; g < now.guests.size(); g++) {
                chance = now.guests.get(g).floor == floor ? chance * (M - sure(g)) / M : chance;
            }
            return (int) chance;
        }

        int thief() {
            int best = -1;
            for (int g = now.guests.size() - 1; g >= 0; g--) {
                Guest him = now.guests.get(g);
                if (him.out && him.key == -1 && (best == -1 || him.since >= now.guests.get(best).since)) {
                    best = g;
                }
            }
            return best;
        }

        int tagCost(int x, int y, int w) {
            if (!in(x, 0, 999) || !in(y, 0, 999) || !in(w, 0, 20)) {
                return -1;
            }
            long sum = 0;
            for (int g = 0; g < now.guests.size(); g++) {
                sum += law(g, 2, 5, w);
            }
            return (int) (sum * x / 1000 + (long) w * y);
        }

        int tag(int x, int y) {
            int best = tagCost(x, y, 0) == -1 ? -1 : 0;
            for (int w = 0; w <= 20 && best != -1; w++) {
                best = tagCost(x, y, w) < tagCost(x, y, best) ? w : best;
            }
            return best;
        }

        int saw(int g, int what) {
            if (!isGuest(g) || !in(what, 0, 1)) {
                return -1;
            }
            return (int) now.book.stream()
                .filter(l -> l[1] != 2 && l[2] == g && (what == 0 ? l[4] >= 0 : l[4] < 0)).count();
        }

        int by(int door, int what) {
            if (!in(door, 0, 1) || !in(what, 0, 1)) {
                return -1;
            }
            return (int) now.book.stream().filter(l -> l[1] == what && l[3] == door).count();
        }

        int caller(int g, int x, int y) {
            if (g == -1) {
                now.callers.clear();
                return 0;
            }
            if (!isGuest(g) || !in(x, 0, 999) || !in(y, 0, 999) || now.callers.size() == 8) {
                return -1;
            }
            now.callers.add(new int[] {g, x, y});
            return now.callers.size();
        }

        int said(int what) {
            int set = 0;
            long costs = 0;
            for (int c = 0; c < now.callers.size(); c++) {
                int[] caller = now.callers.get(c);
                long p = sure(caller[0]);
                if (say(caller[0], caller[1], caller[2]) == 1) {
                    set += (int) Math.pow(2, c);
                    costs += (M - p) * caller[1] / M;
                } else {
                    costs += p * caller[2] / M;
                }
            }
            return what == 0 ? set : what == 1 ? (int) costs : -1;
        }

        int pair(int what) {
            long[] best = null;
            for (int a = 0; a < now.guests.size(); a++) {
                for (int b = a + 1; b < now.guests.size(); b++) {
                    long both = sure(a) * sure(b) / M;
                    if (best == null || both > best[2]) {
                        best = new long[] {a, b, both};
                    }
                }
            }
            return best == null || !in(what, 0, 2) ? -1 : (int) best[what];
        }

        private List<Integer> ringOf(int g) {
            List<Integer> ring = new ArrayList<>();
            int at = g;
            while (!ring.contains(at)) {
                ring.add(at);
                int key = now.guests.get(at).key;
                if (key == -1 || key == at) {
                    return List.of();
                }
                at = key;
            }
            return at == g ? ring : List.of();
        }

        int ring(int g) {
            return isGuest(g) ? ringOf(g).size() : -1;
        }

        int swapped(int what) {
            int hooks = 0;
            int wrong = 0;
            Set<Set<Integer>> rings = new HashSet<>();
            for (int g = 0; g < now.guests.size(); g++) {
                int on = hook(g);
                if (on != -1 && on != g) {
                    hooks |= 1 << g;
                    wrong++;
                }
                if (!ringOf(g).isEmpty()) {
                    rings.add(new HashSet<>(ringOf(g)));
                }
            }
            return what == 0 ? hooks : what == 1 ? wrong + rings.size() : what == 2 ? rings.size() : -1;
        }

        private int moves(int clock) {
            int sum = 0;
            for (int g = 0; g < now.guests.size(); g++) {
                sum += law(g, now.guests.get(g).out ? 1 : 0, 3, clock);
            }
            return sum;
        }

        int busy(int what) {
            int best = 0;
            for (int c = 0; c < 24; c++) {
                best = moves(c) > moves(best) ? c : best;
            }
            return what == 0 ? best : what == 1 ? moves(best) / 1000 : -1;
        }

        int expect() {
            return moves(now.hour % 24) / 1000;
        }

        int lack(int what) {
            int count = 0;
            long out = 0;
            int really = 0;
            for (int g = 0; g < now.guests.size(); g++) {
                if (now.guests.get(g).key == -1) {
                    count++;
                    out += M - sure(g);
                    really += now.guests.get(g).out ? 1 : 0;
                }
            }
            return what == 0 ? count : what == 1 ? (int) (out / M) : what == 2 ? really : -1;
        }

        int knocks(int i) {
            List<Integer> order = new ArrayList<>();
            for (int room = 0; room < now.rooms.size(); room++) {
                order.add(room);
            }
            order.sort((a, b) -> Long.compare(sure(now.rooms.get(a)[0]), sure(now.rooms.get(b)[0])));
            return in(i, 0, order.size() - 1) ? order.get(i) : -1;
        }

        int room(int g, int minutes, int by, int worth) {
            if (g == -1) {
                now.rooms.clear();
                return 0;
            }
            if (!isGuest(g) || !in(minutes, 1, 99) || !in(by, 1, 999) || !in(worth, 0, 99) || now.rooms.size() == 8) {
                return -1;
            }
            now.rooms.add(new int[] {g, minutes, by, worth});
            return now.rooms.size();
        }

        private int added(int set, ToIntFunction<int[]> what) {
            int sum = 0;
            for (int i = 0; i < now.rooms.size(); i++) {
                sum += (set & 1 << i) != 0 ? what.applyAsInt(now.rooms.get(i)) : 0;
            }
            return sum;
        }

        /** Some room is the last one, and all others can be done before it. */
        private boolean canBeDone(int set, boolean[] can) {
            for (int i = 0; i < now.rooms.size(); i++) {
                if ((set & 1 << i) != 0 && can[set ^ 1 << i] && added(set, r -> r[1]) <= now.rooms.get(i)[2]) {
                    return true;
                }
            }
            return set == 0;
        }

        int done(int what) {
            boolean[] can = new boolean[1 << now.rooms.size()];
            int best = 0;
            for (int set = 0; set < can.length; set++) {
                can[set] = canBeDone(set, can);
                int more = added(set, r -> r[3]) - added(best, r -> r[3]);
                int fewer = added(best, r -> 1) - added(set, r -> 1);
                if (can[set] && (more > 0 || more == 0 && fewer > 0)) {
                    best = set;
                }
            }
            return what == 0 ? added(best, r -> r[3]) : what == 1 ? best : -1;
        }

        private void rows(String row, List<String> all) {
            all.add(row);
            for (char f = '0'; f < '4'; f++) {
                if (row.indexOf(f) < 0) {
                    rows(row + f, all);
                }
            }
        }

        int fire(int m, int what) {
            if (!in(m, 1, 99)) {
                return -1;
            }
            List<String> all = new ArrayList<>();
            rows("", all);
            all.sort(String::compareTo);
            long most = -1;
            String best = "";
            for (String row : all) {
                long found = 0;
                int time = 0;
                int last = 0;
                for (char c : row.toCharArray()) {
                    time += 3 + 2 * Math.abs(c - '0' - last);
                    last = c - '0';
                    for (int g = 0; g < now.guests.size(); g++) {
                        found += now.guests.get(g).floor == last ? sure(g) : 0;
                    }
                }
                if (time <= m && found > most) {
                    most = found;
                    best = row;
                }
            }
            if (what >= 10 && what < 10 + best.length()) {
                return best.charAt(what - 10) - '0';
            }
            return what == 0 ? (int) (most / M) : what == 1 ? best.length() : -1;
        }

        int stands(int price, int what) {
            if (!in(price, 0, 999) || what != 0 && !in(what, 10, 33)) {
                return -1;
            }
            String[] ways = {"", ""};
            int[] worth = {0, 0};
            for (int c = 23; c >= 0; c--) {
                int[] gain = new int[2];
                for (int g = 0; g < now.guests.size(); g++) {
                    if (!now.guests.get(g).out) {
                        int go = law(g, 0, 3, c);
                        int front = go * law(g, 4, 3, c) / 1000;
                        gain[0] += front;
                        gain[1] += go - front;
                    }
                }
                String[] longer = new String[2];
                int[] more = new int[2];
                for (int d = 0; d < 2; d++) {
                    int stay = worth[d];
                    int change = c == 23 ? -1 : worth[1 - d] - price;
                    boolean stays = stay > change || stay == change && ways[d].compareTo(ways[1 - d]) < 0;
                    longer[d] = d + (stays ? ways[d] : ways[1 - d]);
                    more[d] = gain[d] + (stays ? stay : change);
                }
                ways = longer;
                worth = more;
            }
            int d = worth[0] >= worth[1] ? 0 : 1;
            return what == 0 ? worth[d] : ways[d].charAt(what - 10) - '0';
        }

        int tellsOn(int clerk) {
            if (!in(clerk, 0, 3)) {
                return -1;
            }
            int set = 0;
            for (int g = 0; g < now.guests.size(); g++) {
                int saw = -1;
                for (int[] line : now.book) {
                    saw = line[1] == 0 && line[2] == g ? line[4] : saw;
                }
                set |= now.guests.get(g).out && saw == clerk ? 1 << g : 0;
            }
            return set;
        }

        int carries() {
            int best = -1;
            for (int g = now.guests.size() - 1; g >= 0; g--) {
                best = best == -1 || law(g, 2) >= law(best, 2) ? g : best;
            }
            return best;
        }

        int away(int g, int n) {
            if (!isGuest(g) || !now.guests.get(g).out || !in(n, 0, 48)) {
                return -1;
            }
            long p = M;
            for (int k = 0; k < n; k++) {
                int[] known = atHour(g, now.hour + k);
                known[8] = Math.min(999, known[8] + k);
                p = p * (1000 - law(known, 1)) / 1000;
            }
            return (int) p;
        }

        boolean undo() {
            if (past.isEmpty()) {
                return false;
            }
            All was = past.removeLast();
            was.law = now.law;
            was.rooms = now.rooms;
            was.callers = now.callers;
            now = was;
            return true;
        }

        boolean image(boolean taken) {
            if (taken) {
                image = now.copy();
                return true;
            }
            if (image == null) {
                return false;
            }
            now = image.copy();
            past.clear();
            return true;
        }

        int look(int what) {
            int out = 0;
            int hooks = 0;
            for (int g = 0; g < now.guests.size(); g++) {
                out |= now.guests.get(g).out ? 1 << g : 0;
                hooks |= hook(g) != -1 ? 1 << g : 0;
            }
            int[] all = {now.guests.size(), now.hour, out, hooks, now.pear, now.rain, now.book.size(), now.draws,
                now.law.size(), now.signs.size(), now.shifts.size(), now.rooms.size(), past.size(),
                now.callers.size()};
            return in(what, 0, 13) ? all[what] : -1;
        }
    }
}
