import java.lang.reflect.Field;
import java.lang.reflect.Method;
import java.lang.reflect.Modifier;
import java.nio.file.Files;
import java.nio.file.Path;
import java.util.Set;
import java.util.TreeSet;
import java.util.regex.Matcher;
import java.util.regex.Pattern;

/** The class has the document's face and no other, and its text keeps to what LANGUAGE.md rules out. */
public final class LanguageTest {
    private static final String FACE = "int debt(int int int int);int set(int int int);int pay(int int);"
        + "int pays(int int int int);int word(int int int);int move(int int);int count(int);int type(long int);int law(int);"
        + "int letter(int int);long left(int int int int);long owed(int int);long put(int int int int);int paid(int int);"
        + "int dead(int int int);int wakes(int int);int free(int int);int rank(int int int);int best(int int int int);"
        + "long least(int int int);int answer(int int int);long hangs(int int int int int int);"
        + "long plan(int int int int int);int parts();long gap(int);int judge(int int int int int);int image();"
        + "int restore();int sheet(int int int);int drop(int);int item(int int int int)";
    private static final Set<String> CONSTANTS
        = Set.of("BAD -1", "NOT -2", "FULL -3", "NONE -4", "NULL -11", "CAST -12", "INDEX -13", "SIZE -14");
    private static final String[] RULED_OUT = {"\\b(throw|throws|try|catch|synchronized|assert|protected)\\b", "->", "::",
        "\\b(toString|hashCode|Object|System\\.out|System\\.nano|System\\.current|Thread|Random)\\b", "\\w+Exact\\b",
        "\\bthis\\b\\s*[,)]"};
    private static final int MOST_FIELDS = 20;
    private static final int MOST_LINES = 60;
    private static int wrong = 0;

    public static void main(String[] args) throws Exception {
        face();
        text();
        lengths();
        System.out.println(wrong == 0 ? "the class keeps to its face and language" : wrong + " faults of face or language");
        if (wrong != 0) {
            System.exit(1);
        }
    }

    private static void say(String fault) {
        wrong++;
        System.out.println(fault);
    }

    private static void face() throws Exception {
        if (!Modifier.isFinal(PaidDebts.class.getModifiers()) || !Modifier.isPublic(PaidDebts.class.getModifiers())) {
            say("the class is not public and final");
        }
        if (PaidDebts.class.getConstructors().length != 1 || PaidDebts.class.getDeclaredConstructors().length != 1
                || PaidDebts.class.getConstructors()[0].getParameterCount() != 0) {
            say("there is not one constructor, which takes nothing");
        }
        Set<String> open = new TreeSet<>();
        Set<String> names = new TreeSet<>();
        Set<String> hidden = new TreeSet<>();
        for (Method m : PaidDebts.class.getDeclaredMethods()) {
            if (Modifier.isPrivate(m.getModifiers())) {
                hidden.add(m.getName());
            } else {
                open.add(signature(m));
                names.add(m.getName());
            }
        }
        if (!open.equals(new TreeSet<>(Set.of(FACE.split(";"))))) {
            say("the face is " + open);
        }
        Set<String> constants = new TreeSet<>();
        for (Field f : PaidDebts.class.getDeclaredFields()) {
            if (!Modifier.isPrivate(f.getModifiers())) {
                constants.add(f.getName() + " " + f.getInt(null));
                if (!Modifier.isPublic(f.getModifiers()) || f.getType() != int.class) {
                    say("not a public int: " + f);
                }
            }
            if (Modifier.isStatic(f.getModifiers()) && !Modifier.isFinal(f.getModifiers())) {
                say("static and not final: " + f);
            }
        }
        if (!constants.equals(new TreeSet<>(CONSTANTS))) {
            say("the constants are " + constants);
        }
        for (Class<?> inside : PaidDebts.class.getDeclaredClasses()) {
            if (!Modifier.isStatic(inside.getModifiers()) || Modifier.isPublic(inside.getModifiers())) {
                say("not static, or public: " + inside);
            }
            if (inside.getDeclaredFields().length > MOST_FIELDS) {
                say("too many fields: " + inside);
            }
            for (Method m : inside.getDeclaredMethods()) {
                hidden.add(m.getName());
                if (m.getParameterCount() > 7) {
                    say("too many parameters: " + m);
                }
            }
        }
        hidden.retainAll(names);
        if (!hidden.isEmpty()) {
            say("names of public methods are borne by others: " + hidden);
        }
    }

    private static String signature(Method m) {
        StringBuilder types = new StringBuilder();
        for (Class<?> type : m.getParameterTypes()) {
            types.append(types.length() == 0 ? "" : " ").append(type.getName());
        }
        return m.getReturnType() + " " + m.getName() + "(" + types + ")";
    }

    /** A method begins with a line that ends by "{" and ends with a "}" as far from the left. */
    private static void lengths() throws Exception {
        String begin = "";
        int from = 0;
        int line = 0;
        for (String text : Files.readAllLines(Path.of("src/main/java/PaidDebts.java"))) {
            line++;
            if (text.matches(" {4,8}(?!if |for |while |switch |else |do )\\w[^=;]*\\).*\\{")) {
                begin = text;
                from = line;
            } else if (from > 0 && text.equals(begin.replaceAll("\\S.*", "") + "}")) {
                if (line - from > MOST_LINES) {
                    say("too long: " + begin);
                }
                from = 0;
            }
        }
        if (line == 0 || begin.isEmpty()) {
            say("there are no methods");
        }
    }

    private static void text() throws Exception {
        String text = Files.readString(Path.of("src/main/java/PaidDebts.java"))
            .replaceAll("(?s)/\\*.*?\\*/", " ").replaceAll("//[^\n]*", " ").replaceAll("\"[^\"\n]*\"", "\"\"");
        for (String ruledOut : RULED_OUT) {
            Matcher m = Pattern.compile(ruledOut).matcher(text);
            if (m.find()) {
                say("ruled out: " + m.group());
            }
        }
        Matcher imported = Pattern.compile("import ([^;]*);").matcher(text);
        while (imported.find()) {
            if (!Set.of("java.util.Arrays", "java.util.ArrayList", "java.util.List").contains(imported.group(1))) {
                say("imported: " + imported.group(1));
            }
        }
        if (text.split("\\bclass\\b").length - 1 > 12) {
            say("more than twelve classes");
        }
    }
}
