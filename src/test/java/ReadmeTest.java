import java.io.IOException;
import java.lang.reflect.Method;
import java.nio.file.Files;
import java.nio.file.Path;
import java.util.ArrayList;
import java.util.List;
import java.util.regex.Matcher;
import java.util.regex.Pattern;

/** README.md: its example answers what it says, and its tables have the calls as the document has them. */
public final class ReadmeTest {
    private static final Pattern TEXT = Pattern.compile("for \\(char c : \"(.*)\"\\.toCharArray\\(\\)\\) \\{");
    private static final Pattern CALL = Pattern.compile("lands\\.(\\w+)\\((.*)\\); +// (-?\\d+|[A-Z]+): .+");
    private static final Pattern ROW = Pattern.compile("\\| `(\\w+\\([^`]*\\))` \\| (.+?) \\| (.*?) ?\\|");
    private static final Pattern PROMISE = Pattern.compile("(?m)^`int (\\w+\\(.*?\\))`: (.*)$");
    private static final Pattern REFUSAL = Pattern.compile("UNKNOWN|OUTSIDE|NOT|FULL");
    private static int answers;
    private static int wrong;

    public static void main(String[] args) throws IOException, ReflectiveOperationException {
        String readme = Files.readString(Path.of("README.md"));
        example(readme);
        tables(readme, Files.readString(Path.of("../shared/DOC.md")));
        due("README.md tells of .ci/run", readme.contains("    .ci/run\n"), true);
        System.out.println(wrong == 0 ? answers + " lines of README.md are true" : wrong + " lines are not true");
        if (wrong != 0) {
            System.exit(1);
        }
    }

    private static void due(String what, Object got, Object want) {
        answers++;
        if (!got.equals(want)) {
            wrong++;
            System.out.println(what + ": is " + got + ", due is " + want);
        }
    }

    private static void example(String readme) throws ReflectiveOperationException {
        int begin = readme.indexOf("```java\n");
        int end = readme.indexOf("```\n", begin + 1);
        due("there is an example", begin >= 0 && end > begin, true);
        if (begin < 0 || end < begin) {
            return;
        }
        TrayLands lands = new TrayLands();
        int calls = 0;
        for (String line : readme.substring(begin, end).lines().skip(1).toList()) {
            Matcher text = TEXT.matcher(line);
            Matcher call = CALL.matcher(line);
            if (text.matches()) {
                text.group(1).chars().forEach(lands::feed);
            } else if (call.matches()) {
                calls++;
                due(line, answer(lands, call.group(1), call.group(2)), meant(call.group(3)));
            } else {
                due("a line that is no call: " + line, isFrame(line), true);
            }
        }
        due("the example has calls", calls > 0, true);
    }

    private static boolean isFrame(String line) {
        return line.equals("TrayLands lands = new TrayLands();") || line.startsWith("// ")
            || line.equals("    lands.feed(c);") || line.equals("}");
    }

    private static int answer(TrayLands lands, String name, String args) throws ReflectiveOperationException {
        for (Method m : TrayLands.class.getMethods()) {
            if (m.getName().equals(name) && m.getDeclaringClass() == TrayLands.class) {
                List<Object> values = new ArrayList<>();
                for (String arg : args.isEmpty() ? new String[0] : args.split(", ")) {
                    boolean is = m.getParameterTypes()[values.size()] == boolean.class;
                    values.add(is ? (Object) Boolean.valueOf(arg) : (Object) meant(arg));
                }
                return (Integer) m.invoke(lands, values.toArray());
            }
        }
        throw new NoSuchMethodException(name);
    }

    private static Integer meant(String word) throws ReflectiveOperationException {
        return Character.isLetter(word.charAt(0)) ? TrayLands.class.getField(word).getInt(null) : Integer.valueOf(word);
    }

    /** Each row, in the document's order: the call with its names, the refusals. */
    private static void tables(String readme, String document) {
        List<String> rows = new ArrayList<>();
        for (Matcher row = ROW.matcher(readme); row.find();) {
            rows.add(row.group(1) + " refuses " + refusalsIn(row.group(3)));
        }
        List<String> promises = new ArrayList<>();
        for (Matcher promise = PROMISE.matcher(document); promise.find();) {
            String call = promise.group(1).replaceAll("\\b(int|boolean) ", "");
            promises.add(call + " refuses " + refusalsIn(promise.group(2)));
        }
        due("promises are found", promises.size(), 32);
        due("the calls of the tables", rows, promises);
    }

    private static List<String> refusalsIn(String words) {
        List<String> all = new ArrayList<>();
        for (Matcher m = REFUSAL.matcher(words); m.find();) {
            all.add(m.group());
        }
        return all;
    }
}
