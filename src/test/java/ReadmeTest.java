import java.io.IOException;
import java.nio.file.Files;
import java.nio.file.Path;
import java.util.ArrayList;
import java.util.List;
import java.util.Map;
import java.util.TreeSet;
import java.util.regex.Matcher;
import java.util.regex.Pattern;
import java.util.stream.Stream;

/** README.md: the calls that it shows, with the answers that it gives for them; the tests that it names. */
public final class ReadmeTest {
    private static final Due T = new Due("ReadmeTest");
    private static final Pattern LETTERS = Pattern.compile("for \\(char letter : \"(.*)\"\\.toCharArray\\(\\)\\) \\{");
    private static final Pattern CALL =
        Pattern.compile("x\\.(\\w+)\\(([^()]*)\\);\\s+// (UNKNOWN|OUTSIDE|STATE|FULL|NONE|-?\\d+)(:.*)?");
    private static final Map<String, Integer> NAMED = Map.of("UNKNOWN", MilkTruce.UNKNOWN,
        "OUTSIDE", MilkTruce.OUTSIDE, "STATE", MilkTruce.STATE, "FULL", MilkTruce.FULL, "NONE", MilkTruce.NONE);

    public static void main(String[] args) throws IOException, ReflectiveOperationException {
        String readme = Files.readString(Path.of("README.md"));
        calls(example(readme));
        tests(readme);
        T.end();
    }

    private static List<String> example(String readme) {
        List<String> lines = new ArrayList<>();
        boolean within = false;
        for (String line : readme.split("\n")) {
            if (line.startsWith("```")) {
                within = line.equals("```java");
            } else if (within) {
                lines.add(line);
            }
        }
        return lines;
    }

    private static void calls(List<String> lines) throws ReflectiveOperationException {
        MilkTruce x = null;
        int shown = 0;
        boolean writes = false;
        for (String line : lines) {
            Matcher letters = LETTERS.matcher(line);
            Matcher call = CALL.matcher(line);
            if (line.equals("MilkTruce x = new MilkTruce();")) {
                x = new MilkTruce();
            } else if (x != null && letters.matches()) {
                Due.write(x, letters.group(1));
                writes = true;
            } else if (x != null && call.matches()) {
                answer(x, call);
                shown++;
            } else {
                // A line that is not understood would go by unlooked at.
                boolean isOfWriting = writes && (line.startsWith("    x.write(letter);") || line.equals("}"));
                T.due("'" + line + "' is understood", isOfWriting ? 1 : 0, 1);
            }
        }
        T.due("calls are shown", shown > 0 ? 1 : 0, 1);
    }

    private static void answer(MilkTruce x, Matcher call) throws ReflectiveOperationException {
        String shown = "x." + call.group(1) + "(" + call.group(2) + ")";
        String given = call.group(3);
        long want = NAMED.containsKey(given) ? NAMED.get(given) : Long.parseLong(given);
        if (call.group(1).equals("sorts")) {
            stops(x, shown, Integer.parseInt(call.group(2)), call.group(4));
        }
        T.due(shown, asked(x, call.group(1), call.group(2)), want);
    }

    /** Of SORTS it says which HOURS are stops: by the document's counting, which is that of SOW's HOUR n. */
    private static void stops(MilkTruce x, String shown, int n, String said) {
        StringBuilder due = new StringBuilder();
        for (int hour = 1; hour <= n; hour++) {
            if (x.fewest(hour, false) == 0) {
                due.append(due.length() == 0 ? "" : " and ").append("HOUR ").append(hour);
            }
        }
        due.append(" from now on are stops");
        T.due(shown + " is said to tell that " + due, said != null && said.endsWith(": " + due) ? 1 : 0, 1);
    }

    private static long asked(MilkTruce x, String name, String told) throws ReflectiveOperationException {
        String[] words = told.isBlank() ? new String[0] : told.split(", ");
        Class<?>[] types = new Class<?>[words.length];
        Object[] values = new Object[words.length];
        for (int i = 0; i < words.length; i++) {
            boolean isFlag = words[i].equals("true") || words[i].equals("false");
            boolean isLong = name.equals("seed");
            types[i] = isFlag ? boolean.class : isLong ? long.class : int.class;
            values[i] = isFlag ? (Object) Boolean.valueOf(words[i])
                : isLong ? (Object) Long.valueOf(words[i]) : (Object) Integer.valueOf(words[i]);
        }
        return ((Number) MilkTruce.class.getMethod(name, types).invoke(x, values)).longValue();
    }

    private static void tests(String readme) throws IOException {
        TreeSet<String> named = new TreeSet<>();
        Matcher found = Pattern.compile("`(\\w+Test)`").matcher(readme);
        while (found.find()) {
            named.add(found.group(1));
        }
        TreeSet<String> there = new TreeSet<>();
        try (Stream<Path> files = Files.list(Path.of("src/test/java"))) {
            files.map(file -> file.getFileName().toString()).filter(file -> file.endsWith("Test.java"))
                .forEach(file -> there.add(file.substring(0, file.length() - ".java".length())));
        }
        T.due("named are " + named + ", there are " + there, named.equals(there) ? 1 : 0, 1);
    }
}
