import java.io.IOException;
import java.lang.reflect.Method;
import java.lang.reflect.Modifier;
import java.nio.file.Files;
import java.nio.file.Path;
import java.util.Set;
import java.util.TreeSet;
import java.util.regex.Matcher;
import java.util.regex.Pattern;

/** What README.md says is so: each line of its examples answers as it tells, and its tables have the class's face. */
final class ReadmeTest {
    private static final Pattern BLOCK = Pattern.compile("(?s)```java\n(.*?)```");
    private static final Pattern MADE = Pattern.compile("SheepSquare town = new SheepSquare\\(\\);");
    private static final Pattern READ = Pattern.compile("read\\(town, \"([^\"]*)\"\\); +// (-?[0-9]+|[A-Z]+)(: .*)?");
    private static final Pattern CALL = Pattern.compile("town\\.([a-z]+\\([-0-9, ]*\\)); +// (-?[0-9]+|[A-Z]+)(:? .*)?");
    private static final Pattern ROW = Pattern.compile("(?m)^\\| `([a-z]+)\\(([a-z, ]*)\\)` \\|");
    private static final Due due = new Due("ReadmeTest");

    public static void main(String[] args) throws IOException {
        String text = Files.readString(Path.of("README.md"));
        examples(text);
        everyCall(text);
        refusals(text);
        due.end();
    }

    private static void examples(String text) {
        Matcher block = BLOCK.matcher(text);
        Town town = null;
        int lines = 0;
        while (block.find()) {
            if (block.group(1).startsWith("static int read(")) continue;
            for (String line : block.group(1).split("\n")) {
                lines++;
                if (MADE.matcher(line).matches()) town = new Town(due, "README");
                else if (town == null) due.holds("a town is made ahead of: " + line, false);
                else example(town, line);
            }
        }
        due.holds("examples were found", lines > 80);
    }

    private static void example(Town town, String line) {
        Matcher read = READ.matcher(line);
        Matcher call = CALL.matcher(line);
        if (read.matches()) due.is("README: " + line, town.feed(read.group(1)).call("square()"), number(read.group(2)));
        else if (call.matches()) town.is(number(call.group(2)), call.group(1));
        else due.holds("an example has one of the forms that are run: " + line, false);
    }

    private static int number(String told) {
        switch (told) {
            case "NONE": return SheepSquare.NONE;
            case "BAD": return SheepSquare.BAD;
            case "STATE": return SheepSquare.STATE;
            case "FULL": return SheepSquare.FULL;
            default: return Integer.parseInt(told);
        }
    }

    private static void everyCall(String text) {
        Set<String> face = new TreeSet<>(), told = new TreeSet<>();
        for (Method m : SheepSquare.class.getDeclaredMethods()) {
            if (Modifier.isPublic(m.getModifiers())) face.add(m.getName() + "/" + m.getParameterCount());
        }
        Matcher row = ROW.matcher(text);
        while (row.find()) told.add(row.group(1) + "/" + (row.group(2).isEmpty() ? 0 : row.group(2).split(",").length));
        due.holds("the table has every call and no other: " + told, told.equals(face));
    }

    private static void refusals(String text) {
        String[] constants = {"NONE", "BAD", "STATE", "FULL"}, findings = {"NULL", "PLACE", "KIND", "SIZE", "STORE"};
        for (String one : constants) due.holds(one, text.contains("| " + number(one) + " | `" + one + "` |"));
        for (int i = 0; i < findings.length; i++) {
            due.holds(findings[i], text.contains("| " + (-1000011 - i) + " | " + (i + 1) + " " + findings[i] + " |"));
        }
    }
}
