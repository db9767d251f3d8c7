import java.io.File;
import java.io.PrintWriter;
import java.io.StringWriter;
import java.util.ArrayList;
import java.util.Arrays;
import java.util.List;
import java.util.Map;
import java.util.Optional;
import java.util.Set;
import java.util.TreeMap;
import java.util.TreeSet;
import java.util.regex.Matcher;
import java.util.regex.Pattern;
import java.util.spi.ToolProvider;

/** LANGUAGE.md's rules of calls, seen from the compiled class: how deep they go, which go round, and to what library. */
public final class CallsTest extends Checks {
    private static final int DEEPEST = 8;
    // What rule 4 lists, but for lists: the class has none.
    private static final Pattern LIBRARY = Pattern.compile("java/lang/(Object\\.<init>"
        + "|String\\.(<init>|length|charAt|isEmpty|equals|indexOf|substring|toCharArray)"
        + "|StringBuilder\\.(<init>|append|charAt|setCharAt|setLength|deleteCharAt|reverse|length|toString)"
        + "|(Integer|Long|Math)\\.(compare|max|min|abs|bitCount|floorDiv|floorMod)|System\\.arraycopy)"
        + "|java/util/Arrays\\.(copyOf|copyOfRange|fill)");
    // Its depth is carried as an argument.
    private static final Set<String> CALLS_ITSELF = Set.of("IsHeIn$Rounds.searchOn");
    private static final Pattern CLASS = Pattern.compile("^(?:\\w+ )*class (\\S+) .*");
    private static final Pattern METHOD = Pattern.compile("^  (?:\\S.* )?([\\w$]+)\\(.*\\);$");
    private static final Pattern CALL = Pattern.compile(".*: invoke\\w+ .*// (?:Interface)?Method (\\S+?):.*");

    public static void main(String[] args) {
        Optional<ToolProvider> javap = ToolProvider.findFirst("javap");
        if (javap.isEmpty()) {
            System.out.println("no javap in this Java: the calls are not looked at");
            return;
        }
        Map<String, Set<String>> calls = callsOf(bytecode(javap.get()));
        yes("the calls are read", calls.size() > 100 && calls.get("IsHeIn.text").contains("IsHeIn$Reader.readText"));
        for (String method : calls.keySet()) {
            follow(method, calls, new ArrayList<>());
        }
        for (Set<String> called : calls.values()) {
            for (String to : called) {
                yes("LANGUAGE 4: " + to, calls.containsKey(to) || LIBRARY.matcher(to).matches());
            }
        }
        finish();
    }

    private static String bytecode(ToolProvider javap) {
        String place = IsHeIn.class.getProtectionDomain().getCodeSource().getLocation().getPath();
        List<String> told = new ArrayList<>(List.of("-p", "-c"));
        for (File f : Optional.ofNullable(new File(place).listFiles()).orElse(new File[0])) {
            if (f.getName().matches("IsHeIn(\\$\\w+)?\\.class")) {
                told.add(f.getPath());
            }
        }
        StringWriter out = new StringWriter();
        javap.run(new PrintWriter(out), new PrintWriter(System.out), told.toArray(new String[0]));
        return out.toString();
    }

    private static Map<String, Set<String>> callsOf(String bytecode) {
        Map<String, Set<String>> calls = new TreeMap<>();
        String owner = "";
        String method = "";
        for (String line : bytecode.lines().toList()) {
            Matcher type = CLASS.matcher(line);
            Matcher head = METHOD.matcher(line);
            Matcher call = CALL.matcher(line);
            if (type.matches()) {
                owner = type.group(1);
            } else if (head.matches()) {
                method = owner + "." + (head.group(1).equals(owner) ? "<init>" : head.group(1));
                calls.computeIfAbsent(method, m -> new TreeSet<>());
            } else if (call.matches()) {
                String to = call.group(1).replace("\"", "");
                calls.get(method).add(to.contains(".") ? to : owner + "." + to);
            }
        }
        return calls;
    }

    /** Goes along every way of calls; the library's own calls are not counted. */
    private static void follow(String method, Map<String, Set<String>> calls, List<String> way) {
        if (way.contains(method)) {
            yes("LANGUAGE 8: " + method + " comes to itself by " + way,
                CALLS_ITSELF.contains(method) && way.get(way.size() - 1).equals(method));
            return;
        }
        way.add(method);
        if (way.size() > DEEPEST) {
            due("LANGUAGE 11: " + Arrays.toString(way.toArray()), way.size(), DEEPEST);
        } else {
            for (String to : calls.getOrDefault(method, Set.of())) {
                if (calls.containsKey(to)) {
                    follow(to, calls, way);
                }
            }
        }
        way.remove(way.size() - 1);
    }
}
