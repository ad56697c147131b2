/** What the tests share: it counts the answers that are not as due, and says each of them. */
class Checks {
    private static final String ALL_LETTERS = "ctsxpdhuol";
    private static int wrong = 0;

    static void due(String call, long got, long due) {
        if (got != due) {
            wrong++;
            System.out.println(call + " answered " + got + ", due is " + due);
        }
    }

    static void dueText(String call, String got, String due) {
        if (!got.equals(due)) {
            wrong++;
            System.out.println(call + " is " + got + ", due is " + due);
        }
    }

    /** Ends the test with exit code 1, if an answer was not as due. */
    static void end(String allIsWell) {
        System.out.println(wrong == 0 ? allIsWell : wrong + " answers are not as due");
        if (wrong != 0) {
            System.exit(1);
        }
    }

    static void typed(PaidDebts x, String text) {
        for (char c : text.toCharArray()) {
            x.type(c, 1);
        }
    }

    /** Types a text without a fault behind an empty tape, and makes it a law. */
    static void rule(PaidDebts x, int law, String text) {
        typed(x, text);
        due("law " + text, x.law(law), text.replace(" ", "").length());
    }

    static boolean isLetter(int sign) {
        return ALL_LETTERS.indexOf(sign) >= 0;
    }

    /** A sheet of a lane with these items. */
    static void filled(PaidDebts x, int sheet, int lane, int... items) {
        x.sheet(sheet, lane, items.length);
        for (int i = 0; i < items.length; i++) {
            x.item(sheet, lane, i, items[i]);
        }
    }
}
