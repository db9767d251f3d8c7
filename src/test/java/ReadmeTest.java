import java.io.IOException;
import java.lang.reflect.InvocationTargetException;
import java.lang.reflect.Method;
import java.nio.file.Files;
import java.nio.file.Path;
import java.util.ArrayList;
import java.util.List;
import java.util.Set;
import java.util.TreeSet;
import java.util.regex.Matcher;
import java.util.regex.Pattern;

/** The calls that README.md shows answer what stands behind them, and each method refuses as its table says. */
public final class ReadmeTest extends Checks {
    private static final Path README = Path.of("README.md");
    private static final Pattern BLOCK = Pattern.compile("(?s)```java\n(.*?)```");
    private static final Pattern CALL =
        Pattern.compile("house\\.(\\w+)\\(([^)]*)\\); +// (-?\\d+|true|false)(?:: (?:\"([^\"]*)\")?.*)?");
    private static final Pattern ROW = Pattern.compile("(?m)^\\| (false|NONE - 1|NONE|never refused)[^|]*\\| (.*) \\|$");
    // As often as feed must be called until the tape is full; a call that is refused is so again and again.
    private static final int CALLS = 21;

    public static void main(String[] args) throws IOException {
        String readme = Files.readString(README);
        examples(readme);
        refusals(readme.replace("`", ""));
        due("it names the command", readme.contains("\n    bash .ci/run\n") ? 1 : 0, 1);
        finish();
    }

    private static void examples(String readme) {
        Matcher block = BLOCK.matcher(readme);
        int blocks = 0;
        while (block.find()) {
            about("README, example " + ++blocks);
            example(block.group(1));
        }
        due("examples", blocks, 3);
    }

    private static void example(String block) {
        IsHeIn house = new IsHeIn();
        for (String line : block.lines().skip(1).toList()) {
            Matcher call = CALL.matcher(line);
            yes("it is a call with its answer: " + line, call.matches());
            if (call.matches()) {
                List<Integer> numbers = new ArrayList<>();
                long got = call(house, call.group(1), call.group(2), numbers);
                due(line, got, answer(call.group(3)));
                if (call.group(4) != null) {
                    due(line + ": its bytes", lettersOf(numbers).startsWith(call.group(4)) ? 1 : 0, 1);
                }
            }
        }
    }

    private static long answer(String text) {
        return text.equals("true") ? 1 : text.equals("false") ? 0 : Long.parseLong(text);
    }

    private static String lettersOf(List<Integer> numbers) {
        StringBuilder text = new StringBuilder();
        for (int n : numbers) {
            for (int shift = 24; shift >= 0; shift -= 8) {
                text.append((char) (n >>> shift & 255));
            }
        }
        return text.toString();
    }

    private static void refusals(String readme) {
        about("README, the table of what can't be");
        Set<String> left = new TreeSet<>();
        for (Method m : IsHeIn.class.getDeclaredMethods()) {
            if ((m.getModifiers() & java.lang.reflect.Modifier.PUBLIC) != 0) {
                left.add(m.getName());
            }
        }
        Matcher row = ROW.matcher(readme);
        while (row.find()) {
            for (String name : row.group(2).split(" ")) {
                yes(name + " is of the face, and told once", left.remove(name));
                refusal(name, row.group(1));
            }
        }
        due("those that are not told: " + left, left.size(), 0);
    }

    private static void refusal(String name, String answer) {
        if (answer.equals("never refused")) {
            return;
        }
        IsHeIn house = new IsHeIn();
        long got = 0;
        for (int i = 0; i < CALLS; i++) {
            got = invoke(house, method(name), worst(method(name)));
        }
        due(name, got, answer.equals("false") ? 0 : answer.equals("NONE") ? NONE : NO_SUCH);
    }

    // ---- calls by name ----

    private static Method method(String name) {
        for (Method m : IsHeIn.class.getDeclaredMethods()) {
            if (m.getName().equals(name)) {
                return m;
            }
        }
        throw new IllegalArgumentException("no method " + name);
    }

    private static Object[] worst(Method m) {
        Object[] all = new Object[m.getParameterCount()];
        for (int i = 0; i < all.length; i++) {
            all[i] = m.getParameterTypes()[i] == boolean.class ? (Object) false : (Object) MIN;
        }
        return all;
    }

    private static long call(IsHeIn house, String name, String told, List<Integer> numbers) {
        String[] parts = told.isEmpty() ? new String[0] : told.split(", ");
        Object[] all = new Object[parts.length];
        for (int i = 0; i < parts.length; i++) {
            if (parts[i].equals("true") || parts[i].equals("false")) {
                all[i] = parts[i].equals("true");
            } else {
                int n = (int) (long) Long.decode(parts[i]);
                numbers.add(n);
                all[i] = n;
            }
        }
        return invoke(house, method(name), all);
    }

    private static long invoke(IsHeIn house, Method m, Object[] all) {
        try {
            Object got = m.invoke(house, all);
            return got instanceof Boolean b ? b ? 1 : 0 : (Integer) got;
        } catch (IllegalAccessException | InvocationTargetException e) {
            throw new IllegalStateException(m + " threw", e);
        }
    }
}
