import java.io.IOException;
import java.lang.reflect.Constructor;
import java.lang.reflect.Field;
import java.lang.reflect.Method;
import java.lang.reflect.Modifier;
import java.nio.file.Files;
import java.nio.file.Path;
import java.util.Arrays;
import java.util.List;
import java.util.Set;
import java.util.TreeSet;
import java.util.regex.Matcher;
import java.util.regex.Pattern;

/** The rules of LANGUAGE.md that can be seen from outside, and the document's face. */
final class LanguageTest {
    private static final Due due = new Due("LanguageTest");
    private static final List<String> FACE = List.of(
        "row/3", "set/3", "copy/5", "drop/1", "feed/1", "square/0", "fault/0", "steps/1", "change/1", "wind/1",
        "cough/1", "undo/0", "sleeper/2", "sheep/2", "off/1", "counted/2", "when/1", "all/1", "never/0", "quiet/1",
        "order/2", "fewest/3", "missing/3", "windy/3", "sorts/4", "stay/4", "image/1", "restore/1", "kind/1", "as/2",
        "ask/2", "trace/1", "count/1", "status/0");
    private static final List<String> FORBIDDEN = List.of(
        "throw", "throws", "try", "catch", "finally", "synchronized", "assert", "import", "package", "native",
        "volatile", "Exact", "Random", "Thread", "System.out", "System.in", "currentTimeMillis", "nanoTime",
        "hashCode", "equals", "toString", "protected");

    public static void main(String[] args) throws IOException {
        face();
        classesInside();
        text(Files.readString(Path.of("src/main/java/SheepSquare.java")));
        due.end();
    }

    private static void face() {
        Class<?> c = SheepSquare.class;
        due.holds("public and final", Modifier.isPublic(c.getModifiers()) && Modifier.isFinal(c.getModifiers()));
        Set<String> names = new TreeSet<>();
        Set<String> seen = new TreeSet<>();
        for (String one : FACE) names.add(one.split("/")[0]);
        for (Method m : c.getDeclaredMethods()) {
            if (Modifier.isPrivate(m.getModifiers())) {
                due.holds("private " + m.getName() + " bears a name of its own", !names.contains(m.getName()));
                continue;
            }
            boolean ints = m.getReturnType() == int.class && Arrays.stream(m.getParameterTypes()).allMatch(t -> t == int.class);
            due.holds(m + " is of ints, public, not static", ints && m.getModifiers() == Modifier.PUBLIC);
            seen.add(m.getName() + "/" + m.getParameterCount());
        }
        due.holds("the methods are the document's: " + seen, seen.equals(new TreeSet<>(FACE)));
        Set<String> open = new TreeSet<>();
        for (Field f : c.getDeclaredFields()) {
            if (!Modifier.isPrivate(f.getModifiers())) open.add(f.getName());
            if (Modifier.isStatic(f.getModifiers())) due.holds(f + " is final", Modifier.isFinal(f.getModifiers()));
        }
        due.holds("the constants are the document's: " + open, open.equals(Set.of("NONE", "BAD", "STATE", "FULL")));
        Constructor<?>[] made = c.getDeclaredConstructors();
        due.holds("one constructor", made.length == 1 && made[0].getModifiers() == Modifier.PUBLIC && made[0].getParameterCount() == 0);
        due.is("NONE", SheepSquare.NONE, -1000000);
        due.is("BAD", SheepSquare.BAD, -1000001);
        due.is("STATE", SheepSquare.STATE, -1000002);
        due.is("FULL", SheepSquare.FULL, -1000003);
    }

    private static void classesInside() {
        Set<String> names = new TreeSet<>();
        for (String one : FACE) names.add(one.split("/")[0]);
        Class<?>[] inside = SheepSquare.class.getDeclaredClasses();
        due.holds("at most some twelve classes", inside.length < 12);
        for (Class<?> c : inside) {
            due.holds(c + " is static", Modifier.isStatic(c.getModifiers()));
            due.holds(c + " is not public", !Modifier.isPublic(c.getModifiers()));
            int fields = 0;
            for (Field f : c.getDeclaredFields()) {
                if (!Modifier.isStatic(f.getModifiers())) fields++;
                else due.holds(f + " is final", Modifier.isFinal(f.getModifiers()));
            }
            due.holds(c + " has some twenty fields at most", fields <= 20);
            for (Method m : c.getDeclaredMethods()) {
                due.holds(m + " has seven parameters at most", m.getParameterCount() <= 7);
                due.holds(m + " bears a name of its own", !Modifier.isPrivate(m.getModifiers()) || !names.contains(m.getName()));
            }
        }
    }

    private static void text(String source) {
        String code = source.replaceAll("(?s)/\\*.*?\\*/", "").replaceAll("//[^\n]*", "");
        for (String word : FORBIDDEN) {
            due.holds("no " + word, !Pattern.compile("(?<![A-Za-z])" + Pattern.quote(word) + "(?![A-Za-z])").matcher(code).find());
        }
        due.holds("no lambda, no method reference", !code.contains("->") && !code.contains("::"));
        due.holds("signs 1 to 127 alone", source.chars().allMatch(c -> c > 0 && c < 128));
        Matcher method = Pattern.compile("(?m)^( {4}| {8})(?:[a-z]+ )*[A-Za-z\\[\\]]+ ?[A-Za-z]*\\([^;{]*\\) \\{\n(.*?)^\\1\\}", Pattern.DOTALL).matcher(code);
        int methods = 0;
        while (method.find()) {
            methods++;
            due.holds("sixty lines at most: " + method.group().lines().findFirst().orElse(""), method.group(2).lines().count() <= 60);
        }
        due.holds("methods were found", methods > 80);
    }
}
