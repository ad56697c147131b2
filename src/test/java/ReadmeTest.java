import java.io.File;
import java.lang.reflect.Method;
import java.lang.reflect.Modifier;
import java.nio.file.Files;
import java.nio.file.Path;
import java.util.Set;
import java.util.TreeSet;
import java.util.regex.Matcher;
import java.util.regex.Pattern;

/** What README.md shows as an example is as the class answers, and it shows every call and every refusal. */
public final class ReadmeTest extends Checks {
    /** A call, its numbers, its answer, and perhaps the answer's name, less something. */
    private static final Pattern CALL
        = Pattern.compile("book\\.(\\w+)\\((.*)\\);\\s*// (-?\\d+)\\b(?: \\((\\w+)(?: - (\\d+))?\\))?.*");
    private static final Pattern NAMED = Pattern.compile("\\| `([A-Z]+)` \\| (-\\d+) \\|.*");
    private static final String NEW = "PaidDebts book = new PaidDebts();";

    private static PaidDebts book = null;
    private static final Set<String> SHOWN = new TreeSet<>();
    private static final Set<String> TOLD = new TreeSet<>();
    private static final Set<String> REFUSALS = new TreeSet<>();

    public static void main(String[] args) throws Exception {
        boolean isExample = false;
        for (String line : Files.readAllLines(Path.of("README.md"))) {
            if (line.startsWith("```")) {
                isExample = line.equals("```java");
            } else if (isExample) {
                example(line.trim());
            } else {
                told(line);
            }
        }
        Set<String> calls = new TreeSet<>();
        for (Method call : PaidDebts.class.getDeclaredMethods()) {
            if (Modifier.isPublic(call.getModifiers())) {
                calls.add(call.getName());
            }
        }
        dueText("the calls that examples show", SHOWN.toString(), calls.toString());
        dueText("the calls that tables tell", TOLD.toString(), calls.toString());
        dueText("the refusals", REFUSALS.toString(), "[BAD, CAST, FULL, INDEX, NONE, NOT, NULL, SIZE]");
        listsAllTests();
        end("README.md is as the class answers");
    }

    private static void listsAllTests() throws Exception {
        String page = Files.readString(Path.of("README.md"));
        for (String test : new File("src/test/java").list()) {
            due("README.md names " + test, page.contains("- `" + test.replace(".java", "") + "`:") ? 1 : 0, 1);
        }
    }

    private static void example(String line) throws Exception {
        if (line.equals(NEW)) {
            book = new PaidDebts();
            return;
        }
        Matcher shown = CALL.matcher(line);
        if (!shown.matches()) {
            dueText("an example", line, "book.call(..);  // answer");
            return;
        }
        SHOWN.add(shown.group(1));
        long answer = Long.parseLong(shown.group(3));
        due(line, call(shown.group(1), shown.group(2)), answer);
        if (shown.group(4) != null) {
            long less = shown.group(5) == null ? 0 : Long.parseLong(shown.group(5));
            due(line + " by its name", constant(shown.group(4)) - less, answer);
        }
    }

    private static int constant(String name) throws Exception {
        return PaidDebts.class.getField(name).getInt(null);
    }

    private static long call(String name, String told) throws Exception {
        for (Method call : PaidDebts.class.getDeclaredMethods()) {
            if (call.getName().equals(name) && Modifier.isPublic(call.getModifiers())) {
                String[] texts = told.isEmpty() ? new String[0] : told.split(", ");
                Object[] numbers = new Object[texts.length];
                for (int i = 0; i < texts.length; i++) {
                    long v = texts[i].startsWith("'") ? texts[i].charAt(1) : Long.decode(texts[i]);
                    numbers[i] = call.getParameterTypes()[i] == long.class ? (Object) v : (Object) (int) v;
                }
                return ((Number) call.invoke(book, numbers)).longValue();
            }
        }
        throw new IllegalStateException("there is no call " + name);
    }

    /** A row of a table: a call with its numbers, or a refusal with its number. */
    private static void told(String line) throws Exception {
        Matcher named = NAMED.matcher(line);
        if (named.matches()) {
            REFUSALS.add(named.group(1));
            due(line, constant(named.group(1)), Long.parseLong(named.group(2)));
        }
        Matcher called = Pattern.compile("\\| `(\\w+)\\(([^`]*)\\)` \\|.*").matcher(line);
        if (called.matches()) {
            TOLD.add(called.group(1));
            int numbers = called.group(2).isEmpty() ? 0 : called.group(2).split(", ").length;
            for (Method call : PaidDebts.class.getDeclaredMethods()) {
                if (call.getName().equals(called.group(1)) && Modifier.isPublic(call.getModifiers())) {
                    due("how many numbers " + called.group(1) + " takes", numbers, call.getParameterCount());
                }
            }
        }
    }
}
