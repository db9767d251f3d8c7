import java.io.IOException;
import java.lang.reflect.Constructor;
import java.lang.reflect.Field;
import java.lang.reflect.Method;
import java.lang.reflect.Modifier;
import java.nio.file.Files;
import java.nio.file.Path;
import java.util.ArrayList;
import java.util.HashSet;
import java.util.List;
import java.util.Set;
import java.util.regex.Matcher;
import java.util.regex.Pattern;

/** What of LANGUAGE.md can be seen from the class and its source without reading it. */
public final class LanguageTest {
    private static final Path SOURCE = Path.of("src/main/java/IsHeIn.java");
    private static final Set<String> FACE = Set.of("state", "guest", "set", "hang", "looks", "hours", "feed", "end",
        "text", "fault", "of", "hook", "sign", "book", "next", "say", "many", "span", "counted", "visit", "empty",
        "thief", "tagCost", "saw", "by", "caller", "said", "looksAt", "pair", "ring", "busy", "expect", "lack",
        "knocks", "tag", "room", "done", "swapped", "fire", "stands", "tellsOn", "carries", "away", "undo", "image",
        "look");
    private static final List<String> FORBIDDEN = List.of("\\bimport\\b", "\\bpackage\\b", "\\bthrows?\\b", "\\btry\\b",
        "\\bcatch\\b", "\\bfinally\\b", "\\bsynchronized\\b", "\\bassert\\b", "->", "::", "\\bstatic\\s*\\{",
        "\\bSystem\\.(?!arraycopy)", "Exact\\b", "\\bObject\\b", "\\bThread\\b", "\\bClass\\b", "\\bvar\\b",
        "\\bprotected\\b", "\\bnative\\b", "\\bvolatile\\b", "\\bwhile\\s*\\(true\\)", "for\\s*\\(;;");
    private static int wrong = 0;

    public static void main(String[] args) throws IOException {
        String code = withoutCommentsAndTexts(Files.readString(SOURCE));
        for (String bad : FORBIDDEN) {
            Matcher m = Pattern.compile(bad).matcher(code);
            check(!m.find(), "the source holds " + bad);
        }
        checkLength(code);
        checkFace();
        List<Class<?>> classes = new ArrayList<>(List.of(IsHeIn.class.getDeclaredClasses()));
        check(classes.size() + 1 <= 12, "more than twelve classes");
        for (Class<?> c : classes) {
            check(Modifier.isStatic(c.getModifiers()), c + " is not static");
            check(!Modifier.isPublic(c.getModifiers()), c + " is public");
            check(c.getDeclaredClasses().length == 0, c + " holds classes");
        }
        classes.add(IsHeIn.class);
        classes.forEach(LanguageTest::checkMembers);
        System.out.println(wrong == 0 ? "the language is kept" : wrong + " breaches");
        if (wrong != 0) {
            System.exit(1);
        }
    }

    private static void check(boolean is, String what) {
        if (!is) {
            wrong++;
            System.out.println(what);
        }
    }

    private static String withoutCommentsAndTexts(String source) {
        check(source.chars().allMatch(c -> c == 10 || c >= 32 && c < 127), "signs beyond 127 or tabs in the source");
        return source.replaceAll("\"[^\"\n]*\"", "\"\"").replaceAll("(?s)/\\*.*?\\*/", "").replaceAll("//[^\n]*", "");
    }

    private static void checkLength(String code) {
        Matcher m = Pattern.compile("(?m)^( {4}| {8})\\S.*\\) \\{\n(?s:.*?)^\\1\\}$").matcher(code);
        while (m.find()) {
            long lines = m.group().lines().count();
            check(lines <= 60, "a method of " + lines + " lines: " + m.group().lines().findFirst().orElse(""));
        }
    }

    private static void checkFace() {
        check(Modifier.isFinal(IsHeIn.class.getModifiers()), "the class is not final");
        Set<String> names = new HashSet<>();
        for (Method m : IsHeIn.class.getDeclaredMethods()) {
            if (Modifier.isPublic(m.getModifiers())) {
                check(names.add(m.getName()) && FACE.contains(m.getName()), "public beside the face: " + m);
            } else {
                check(Modifier.isPrivate(m.getModifiers()), "neither public nor private: " + m);
                check(!FACE.contains(m.getName()), "a private method bears the name of a public one: " + m);
            }
        }
        check(names.equals(FACE), "the face is not whole");
        for (Field f : IsHeIn.class.getDeclaredFields()) {
            boolean isNone = f.getName().equals("NONE");
            check(isNone == Modifier.isPublic(f.getModifiers()), "a field of the face: " + f);
            check(isNone || Modifier.isPrivate(f.getModifiers()), "neither public nor private: " + f);
        }
        Constructor<?>[] made = IsHeIn.class.getDeclaredConstructors();
        check(made.length == 1 && made[0].getParameterCount() == 0, "not one constructor");
    }

    private static void checkMembers(Class<?> c) {
        int fields = 0;
        for (Field f : c.getDeclaredFields()) {
            boolean isStatic = Modifier.isStatic(f.getModifiers());
            check(!isStatic || Modifier.isFinal(f.getModifiers()), "static and not final: " + f);
            check(f.getType() != Object.class, "an Object: " + f);
            fields += isStatic ? 0 : 1;
        }
        check(fields <= 20, c + " has " + fields + " fields");
        for (Method m : c.getDeclaredMethods()) {
            check(m.getParameterCount() <= 7, "more than seven parameters: " + m);
            check(!m.getName().contains("lambda"), "a lambda: " + m);
            check(!Set.of("equals", "hashCode", "toString").contains(m.getName()), "a method of Object: " + m);
            check(c == IsHeIn.class || !FACE.contains(m.getName()), "bears the name of a public one: " + m);
        }
    }
}
