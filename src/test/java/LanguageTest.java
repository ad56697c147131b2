import java.lang.reflect.Field;
import java.lang.reflect.Method;
import java.lang.reflect.Modifier;
import java.nio.file.Files;
import java.nio.file.Path;
import java.util.Set;
import java.util.TreeSet;
import java.util.regex.Matcher;
import java.util.regex.Pattern;

/** The class has the document's face and no other, and its text keeps to what LANGUAGE.md rules out. */
public final class LanguageTest {
    private static final String FACE = "int debt 4;int set 3;int pay 2;int pays 4;int word 3;int move 2;int count 1;"
        + "int type 2;int law 1;int letter 2;long left 4;long owed 2;long put 4;int paid 2;int dead 3;int wakes 2;"
        + "int free 2;int rank 3;int best 4;long least 3;int answer 3;long hangs 6;long plan 5;int parts 0;long gap 1;"
        + "int judge 5;int image 0;int restore 0;int sheet 3;int drop 1;int item 4";
    private static final Set<String> CONSTANTS
        = Set.of("BAD -1", "NOT -2", "FULL -3", "NONE -4", "NULL -11", "CAST -12", "INDEX -13", "SIZE -14");
    private static final String[] RULED_OUT = {"\\b(throw|throws|try|catch|synchronized|assert|protected)\\b", "->", "::",
        "\\b(toString|hashCode|Object|System\\.out|System\\.nano|System\\.current|Thread|Random)\\b", "\\w+Exact\\b",
        "\\bthis\\b\\s*[,)]"};
    private static int wrong = 0;

    public static void main(String[] args) throws Exception {
        face();
        text();
        System.out.println(wrong == 0 ? "the class keeps to its face and language" : wrong + " faults of face or language");
        if (wrong != 0) {
            System.exit(1);
        }
    }

    private static void say(String fault) {
        wrong++;
        System.out.println(fault);
    }

    private static void face() throws Exception {
        if (!Modifier.isFinal(PaidDebts.class.getModifiers()) || !Modifier.isPublic(PaidDebts.class.getModifiers())) {
            say("the class is not public and final");
        }
        if (PaidDebts.class.getConstructors().length != 1 || PaidDebts.class.getDeclaredConstructors().length != 1) {
            say("there is not one constructor");
        }
        Set<String> open = new TreeSet<>();
        Set<String> names = new TreeSet<>();
        Set<String> hidden = new TreeSet<>();
        for (Method m : PaidDebts.class.getDeclaredMethods()) {
            if (Modifier.isPrivate(m.getModifiers())) {
                hidden.add(m.getName());
            } else {
                open.add(m.getReturnType() + " " + m.getName() + " " + m.getParameterCount());
                names.add(m.getName());
            }
        }
        if (!open.equals(new TreeSet<>(Set.of(FACE.split(";"))))) {
            say("the face is " + open);
        }
        Set<String> constants = new TreeSet<>();
        for (Field f : PaidDebts.class.getDeclaredFields()) {
            if (!Modifier.isPrivate(f.getModifiers())) {
                constants.add(f.getName() + " " + f.getInt(null));
            }
            if (Modifier.isStatic(f.getModifiers()) && !Modifier.isFinal(f.getModifiers())) {
                say("static and not final: " + f);
            }
        }
        if (!constants.equals(new TreeSet<>(CONSTANTS))) {
            say("the constants are " + constants);
        }
        for (Class<?> inside : PaidDebts.class.getDeclaredClasses()) {
            if (!Modifier.isStatic(inside.getModifiers()) || Modifier.isPublic(inside.getModifiers())) {
                say("not static, or public: " + inside);
            }
            for (Method m : inside.getDeclaredMethods()) {
                hidden.add(m.getName());
                if (m.getParameterCount() > 7) {
                    say("too many parameters: " + m);
                }
            }
        }
        hidden.retainAll(names);
        if (!hidden.isEmpty()) {
            say("names of public methods are borne by others: " + hidden);
        }
    }

    private static void text() throws Exception {
        String text = Files.readString(Path.of("src/main/java/PaidDebts.java"))
            .replaceAll("(?s)/\\*.*?\\*/", " ").replaceAll("//[^\n]*", " ").replaceAll("\"[^\"\n]*\"", "\"\"");
        for (String ruledOut : RULED_OUT) {
            Matcher m = Pattern.compile(ruledOut).matcher(text);
            if (m.find()) {
                say("ruled out: " + m.group());
            }
        }
        Matcher imported = Pattern.compile("import ([^;]*);").matcher(text);
        while (imported.find()) {
            if (!Set.of("java.util.Arrays", "java.util.ArrayList", "java.util.List").contains(imported.group(1))) {
                say("imported: " + imported.group(1));
            }
        }
        if (text.split("\\bclass\\b").length - 1 > 12) {
            say("more than twelve classes");
        }
    }
}
