import java.util.LinkedHashMap;
import java.util.Map;

/**
 * Changes between questions: each answer is by what stands then. All questions are asked ahead of a change, behind it
 * twice (there and back again), behind restore, and behind the same change made anew; what a change is not said to
 * change must answer as before.
 *
 * <p>The book: debt 0 of 10 wholes with pledge 1, debt 1 of 20 wholes on which 200 run a day at first, debt 2 of 5
 * wholes since day 8, which is dead from day 19 on. By law 0 payment 0 goes to debt 0 (4 wholes are left), payment 1 by
 * its word to debt 2, then 4 wholes to debt 0 and 3 to debt 1, payment 2 to debt 1. By law 1 payment 0 goes to debt 1,
 * payment 1 by its answer to debt 0, then 2 wholes to debt 1, payment 2 to debt 1.
 */
public final class ChangesTest extends Checks {
    private interface Question {
        long on(PaidDebts x);
    }

    private interface Change {
        void on(PaidDebts x);
    }

    private static final Map<String, Question> QUESTIONS = new LinkedHashMap<>();
    private static final Map<String, Long> FIRST = new LinkedHashMap<>();

    private static void question(String name, Question question, long first) {
        QUESTIONS.put(name, question);
        FIRST.put(name, first);
    }

    static {
        question("8 debts", x -> x.count(0), 3);
        question("8 payments", x -> x.count(1), 3);
        question("8 pledges", x -> x.count(2), 1);
        question("8 stands", x -> x.count(3), 0);
        question("11 letter 0", x -> x.letter(0, 1), 'x');
        question("11 letter 1", x -> x.letter(1, 1), 'h');
        question("12 run 0", x -> x.left(0, 1, 60, 1), 20 * 147);
        question("12 both 0", x -> x.left(0, 1, 60, 2), 147480 + 20 * 147);
        question("12 sum 1", x -> x.left(1, 1, 60, 0), 95880);
        question("13 owed 0", x -> x.owed(0, 60), 150420);
        question("13 owed 1", x -> x.owed(1, 60), 95880 + 20 * 95 + 50000);
        question("14 to the sum 0", x -> x.put(0, 1, 0, 0), 40000);
        question("14 to the run 0", x -> x.put(0, 2, 1, 1), 20 * 174);
        question("14 to the sum 1", x -> x.put(1, 2, 1, 0), 30000 - 20 * 123);
        question("14 spare 0", x -> x.put(0, 2, -1, 0), 0);
        question("15 paid 0", x -> x.paid(0, 0), 20);
        question("15 paid 1", x -> x.paid(1, 0), 20);
        question("15 debt 2 paid 0", x -> x.paid(0, 2), 20);
        question("16 dead 0", x -> x.dead(0, 2, 19), 1);
        question("16 dead 1", x -> x.dead(1, 2, 60), 1);
        question("17 wakes 0", x -> x.wakes(0, 2), 20);
        question("18 free 0", x -> x.free(0, 1), 20);
        question("18 free 1", x -> x.free(1, 1), 20);
        question("19 rank 0", x -> x.rank(0, 30, 0), 1);
        question("19 rank 1", x -> x.rank(1, 60, 1), 2);
        question("20 best of one", x -> x.best(0, 1, 60, 0), 1);
        question("20 best of two", x -> x.best(0, 2, 60, 1), 1);
        question("21 least by one", x -> x.least(0, 1, 60), 149100);
        question("21 least by two", x -> x.least(0, 2, 60), 144340);
        question("22 answer to 0", x -> x.answer(1, 0, 60), 2);
        question("22 answer to 1", x -> x.answer(1, 1, 60), 0);
        question("23 hangs, least", x -> x.hangs(0, 0, 5, 25, 60, 0), 150420);
        question("23 hangs, most", x -> x.hangs(0, 0, 5, 25, 60, 1), 150565);
        question("24 plan, day", x -> x.plan(0, 4, 50, 5, 0), 65);
        question("24 plan, spare", x -> x.plan(0, 4, 50, 5, 1), 10020);
        question("25 parts", x -> x.parts(), 10);
        question("26 gap", x -> x.gap(60), -2640);
        question("27 judge 0", x -> x.judge(0, 60, 0, 2, 0), -4);
        question("27 judge 1", x -> x.judge(1, 60, 0, 2, 0), 1);
    }

    public static void main(String[] args) {
        traits();
        pledgesAndTime();
        debtsAndPayments();
        words();
        moves();
        laws();
        sheets();
        refusedOnes();
        nothingButQuestions();
        twoObjects();
        whatRunsTips();
        whatIsPutTips();
        securityTips();
        images();
        imagesOfChanges();
        diary();
        end("all answers are by what stands then");
    }

    private static PaidDebts scene() {
        PaidDebts x = new PaidDebts();
        x.debt(10, 0, 5, 0);
        x.set(0, 1, 1);
        x.debt(20, 0, 30, 10);
        x.debt(5, 8, 8, 0);
        x.set(2, 3, 10);
        x.pay(10, 6);
        x.pay(20, 12);
        x.pay(40, 3);
        x.word(1, 0, 2);
        x.word(1, 1, 0);
        rule(x, 0, "cx");
        rule(x, 1, "th");
        filled(x, 0, 2, 0, 15, 0, 4, 30, 300, 1);
        x.image();
        return x;
    }

    private static void askAll(String when, PaidDebts x, Map<String, Long> answers) {
        QUESTIONS.forEach((name, question) -> due(name + " " + when, question.on(x), answers.get(name)));
    }

    private static void askAllBackwards(String when, PaidDebts x, Map<String, Long> answers) {
        String[] names = QUESTIONS.keySet().toArray(new String[0]);
        for (int i = names.length - 1; i >= 0; i--) {
            due(names[i] + " " + when, QUESTIONS.get(names[i]).on(x), answers.get(names[i]));
        }
    }

    /** What a change makes of the first answers: a name, the new answer, and so on; all others stay. */
    private static void after(String name, Change change, Object... changed) {
        Map<String, Long> answers = new LinkedHashMap<>(FIRST);
        for (int i = 0; i < changed.length; i += 2) {
            Long old = answers.put((String) changed[i], ((Number) changed[i + 1]).longValue());
            boolean isNew = old != null && !old.equals(answers.get(changed[i]));
            due(changed[i] + " is a question whose answer changes", isNew ? 1 : 0, 1);
        }
        PaidDebts x = scene();
        askAll("ahead of " + name, x, FIRST);
        change.on(x);
        askAll("behind " + name, x, answers);
        askAllBackwards("behind " + name + ", backwards", x, answers);
        due("29 restore behind " + name, x.restore(), 1);
        askAll("restored behind " + name, x, FIRST);
        change.on(x);
        askAll("behind " + name + " again", x, answers);
    }

    private static void traits() {
        after("upon itself", x -> x.set(1, 0, 1), "12 run 0", 2969, "12 both 0", 150504, "12 sum 1", 95909,
            "13 owed 0", 150504, "13 owed 1", 147836, "14 to the run 0", 3505, "14 to the sum 1", 27518,
            "21 least by one", 149257, "21 least by two", 144362, "23 hangs, least", 150504, "23 hangs, most", 150659,
            "24 plan, spare", 9953, "26 gap", -2668);
        after("one who stands", x -> x.set(1, 2, 1), "8 stands", 1);
        after("a rate of 0", x -> x.set(1, 4, 0), "12 run 0", 0, "12 both 0", 140000, "12 sum 1", 90000,
            "13 owed 0", 140000, "13 owed 1", 140000, "14 to the run 0", 0, "14 to the sum 1", 30000,
            "20 best of one", -1, "20 best of two", -1, "21 least by one", 140000, "21 least by two", 140000,
            "22 answer to 0", -1, "22 answer to 1", -1, "23 hangs, least", 140000, "23 hangs, most", 140000,
            "24 plan, spare", 20000, "25 parts", 20, "26 gap", 0, "27 judge 0", 1);
        after("a greater rate of debt 0", x -> x.set(0, 4, 99), "12 run 0", 3240, "12 both 0", 165840,
            "12 sum 1", 111600, "13 owed 0", 165840, "13 owed 1", 163820, "14 to the sum 0", 49900,
            "14 to the run 0", 3760, "14 to the sum 1", 27240, "20 best of one", -1, "20 best of two", -1,
            "21 least by one", 165840, "21 least by two", 163820, "22 answer to 1", 1, "23 hangs, least", 162505,
            "23 hangs, most", 173620, "24 plan, day", 70, "24 plan, spare", 34490, "25 parts", 20, "26 gap", -2020,
            "27 judge 0", 1);
    }

    private static void pledgesAndTime() {
        after("the pledge of another too", x -> x.set(1, 1, 1), "8 pledges", 2, "18 free 0", -4, "18 free 1", -4);
        after("no pledge", x -> x.set(0, 1, -1), "8 pledges", 0, "18 free 0", -2, "18 free 1", -2);
        after("no time", x -> x.set(2, 3, 0), "16 dead 0", 0, "16 dead 1", 0, "17 wakes 0", -4);
        after("due later", x -> x.set(2, 5, 20), "16 dead 0", 0, "17 wakes 0", -4);
        after("time that debt 0 has not", x -> x.set(0, 3, 2), "12 run 0", 20 * 44, "12 both 0", 44880 + 20 * 44,
            "13 owed 0", 145760, "14 to the sum 0", 0, "14 to the run 0", 20 * 73, "15 paid 0", -4, "18 free 0", -4,
            "20 best of one", -1, "20 best of two", 2, "21 least by one", 145760, "21 least by two", 145760,
            "23 hangs, least", 145632, "23 hangs, most", 148800, "24 plan, day", -4, "24 plan, spare", -4,
            "25 parts", 20, "26 gap", 2020, "27 judge 0", 0);
    }

    private static void debtsAndPayments() {
        after("a debt", x -> x.debt(8, 15, 15, 20), "8 debts", 4, "12 sum 1", 142000,
            "13 owed 0", 150420 + 80000 + 45 * 160, "13 owed 1", 142000 + 50 * 142 + 50000 + 33220 + 20 * 66,
            "14 to the sum 1", 0, "19 rank 1", 1, "20 best of two", 3, "21 least by one", 149100 + 87200, "21 least by two", 229900,
            "23 hangs, least", 150420 + 87200, "23 hangs, most", 150565 + 87200, "24 plan, day", 75,
            "24 plan, spare", 860, "26 gap", -3980, "27 judge 0", 3);
        after("a payment", x -> x.pay(9, 7), "8 payments", 4, "12 run 0", 1500, "12 both 0", 77280, "12 sum 1", 23681,
            "13 owed 0", 77280, "13 owed 1", 74141, "14 to the sum 0", 0, "14 to the run 0", 2060,
            "14 to the sum 1", 28960, "15 paid 0", 10, "18 free 0", 10, "21 least by one", 76980,
            "21 least by two", 74340, "23 hangs, least", 77241, "23 hangs, most", 77900, "24 plan, day", 55,
            "24 plan, spare", 3290, "25 parts", 9, "26 gap", -3139, "27 judge 0", 1);
        after("a payment of 30 wholes on day 4 from a sheet", x -> x.pays(0, 2, 3, 1), "8 payments", 4, "12 run 0", 0,
            "12 both 0", 0, "12 sum 1", 0, "13 owed 0", 0, "13 owed 1", 0, "14 to the sum 0", 0, "14 to the run 0", 0,
            "14 to the sum 1", 0, "14 spare 0", 30000, "15 paid 0", 4, "15 paid 1", 10, "15 debt 2 paid 0", 10,
            "16 dead 0", 0, "16 dead 1", 0, "17 wakes 0", -4, "18 free 0", 4, "18 free 1", 10, "19 rank 0", -4,
            "19 rank 1", -4, "20 best of one", -1, "20 best of two", -1, "21 least by one", 0, "21 least by two", 0,
            "22 answer to 0", -1, "22 answer to 1", -1, "23 hangs, least", 0, "23 hangs, most", 0, "24 plan, day", 50,
            "24 plan, spare", 40000, "25 parts", 4, "26 gap", 0, "27 judge 0", 1);
    }

    private static void words() {
        after("a word for the dear debt", x -> x.word(0, 0, 1), "12 run 0", 50 * 142, "12 both 0", 142000 + 50 * 142,
            "13 owed 0", 149100, "14 to the sum 0", 70000, "14 to the run 0", 0, "15 paid 0", 40, "18 free 0", 40,
            "19 rank 0", 0, "23 hangs, least", 148755, "23 hangs, most", 150075, "24 plan, spare", 11305,
            "25 parts", 20, "26 gap", -1320, "27 judge 0", 1);
        after("no word for the dead one", x -> x.word(1, 0, -1), "12 run 0", 20 * 96, "12 both 0", 96480 + 20 * 96,
            "13 owed 0", 148400, "14 to the run 0", 20 * 124, "15 debt 2 paid 0", -4, "17 wakes 0", -4,
            "21 least by one", 147780, "23 hangs, least", 148400, "23 hangs, most", 148700, "24 plan, day", -4,
            "24 plan, spare", -4, "26 gap", -620, "27 judge 0", 1);
        after("another answer", x -> x.word(1, 1, 2), "12 sum 1", 44880, "13 owed 1", 145760, "14 to the sum 1", 28540,
            "15 paid 1", -4, "16 dead 1", 0, "18 free 1", -4, "19 rank 1", 0, "22 answer to 0", 0, "26 gap", -4660,
            "27 judge 1", 0);
        after("a word where words do not count", x -> {
            x.word(2, 1, 0);
            x.word(0, 1, -1);
        });
    }

    private static void moves() {
        after("the first behind the second", x -> x.move(0, 21), "12 both 0", 150446, "12 sum 1", 96540,
            "13 owed 0", 150446, "13 owed 1", 148460, "14 to the sum 0", 70000, "14 to the run 0", 19 * 174,
            "14 to the sum 1", 27644, "15 paid 0", 21, "18 free 0", 21, "21 least by one", 149816,
            "21 least by two", 145020, "24 plan, spare", 9994, "25 parts", 20, "26 gap", -1986);
        after("the second ahead of all", x -> x.move(1, 5), "12 run 0", 20 * 95, "12 both 0", 97435, "12 sum 1", 95535,
            "13 owed 0", 147435, "13 owed 1", 147435, "14 to the sum 0", 100000, "14 to the run 0", 30 * 121,
            "14 to the sum 1", 26370, "15 paid 0", 5, "15 paid 1", 5, "15 debt 2 paid 0", -4, "17 wakes 0", -4,
            "18 free 0", 5, "18 free 1", 5, "20 best of one", -1, "21 least by one", 147435, "21 least by two", 142455,
            "23 hangs, least", 147135, "23 hangs, most", 148400, "24 plan, day", -4, "24 plan, spare", -4,
            "25 parts", -4, "26 gap", 0, "27 judge 0", 1);
        after("there and back", x -> {
            x.move(1, 299);
            x.move(1, 20);
        });
    }

    private static void laws() {
        after("another law 0", x -> rule(x, 0, "sh"), "11 letter 0", (int) 'h', "12 run 0", 0, "12 both 0", 0,
            "13 owed 0", 143800, "14 to the sum 0", 0, "14 to the run 0", 3800, "15 paid 0", -4, "15 debt 2 paid 0", -4,
            "17 wakes 0", -4, "18 free 0", -4, "20 best of one", -1, "20 best of two", -1, "21 least by one", 143800,
            "21 least by two", 143800, "23 hangs, least", 143500, "23 hangs, most", 144700, "24 plan, spare", 16200,
            "25 parts", 11, "26 gap", 3980, "27 judge 0", 0);
        after("another law 1", x -> rule(x, 1, "p"), "11 letter 1", -4, "12 sum 1", 84652, "13 owed 1", 147350,
            "14 to the sum 1", 15433, "15 paid 1", -4, "18 free 1", -4, "19 rank 1", 1, "22 answer to 0", -1,
            "22 answer to 1", -1, "26 gap", -3070, "27 judge 1", 0);
        after("the same letters in another order, which does not count", x -> rule(x, 0, "xc"),
            "11 letter 0", (int) 'c');
    }

    /** Sheets are no part of the book: only judge hangs on them, and restore leaves them. */
    private static void sheets() {
        PaidDebts x = scene();
        x.item(0, 2, 2, 1);
        due("27 debt 2 is told wrongly then", x.judge(0, 60, 0, 2, 0), 2);
        x.item(0, 2, 1, 14);
        due("27 debt 1 too", x.judge(0, 60, 0, 2, 0), 1);
        x.restore();
        due("29 not the sheet", x.judge(0, 60, 0, 2, 0), 1);
        x.item(0, 2, 1, 15);
        x.item(0, 2, 2, 0);
        due("27 all is told rightly again", x.judge(0, 60, 0, 2, 0), -4);
        x.sheet(0, 2, 3);
        due("27 a new row tells nothing of debt 1", x.judge(0, 60, 0, 2, 0), 1);
        x.sheet(0, 1, 3);
        due("27 a row of another lane", x.judge(0, 60, 0, 2, 0), -12);
        x.drop(0);
        due("27 no row", x.judge(0, 60, 0, 2, 0), -11);
        filled(x, 0, 2, 0, 15, 0);
        askAll("behind another sheet", x, FIRST);
    }

    private static void refusedOnes() {
        PaidDebts x = scene();
        long[] refused = {x.debt(0, 0, 0, 0), x.set(1, 4, 100), x.set(3, 4, 0), x.pay(300, 1), x.pay(9, 0),
            x.move(0, 300), x.move(3, 0)};
        for (long answer : refused) {
            due("2 to 7 refused", answer, -1);
        }
        due("5 no payments of days that are none", x.pays(0, 2, 5, 1), -2);
        due("5 no payments behind the end", x.pays(0, 2, 6, 1), -13);
        due("5 no payments of another lane", x.pays(0, 1, 3, 1), -12);
        due("5 no payments from a missing sheet", x.pays(1, 2, 3, 1), -11);
        due("6 no such debt", x.word(0, 0, 3), -101);
        due("6 no such payment", x.word(3, 0, 0), -101);
        typed(x, "sss");
        due("10 no such law", x.law(2), -1);
        due("10 a fault", x.law(0), -21);
        due("10 no letter", x.law(1), -20);
        askAll("behind refused calls", x, FIRST);
        askAllBackwards("behind refused calls, backwards", x, FIRST);
    }

    /** Whatever was asked ahead of it, each question is answered as before. */
    private static void nothingButQuestions() {
        QUESTIONS.forEach((name, question) -> {
            PaidDebts x = scene();
            due(name + " at first", question.on(x), FIRST.get(name));
            due(name + " at once again", question.on(x), FIRST.get(name));
            QUESTIONS.forEach((between, other) -> {
                due(between + " behind " + name, other.on(x), FIRST.get(between));
                due(name + " behind " + between, question.on(x), FIRST.get(name));
            });
        });
    }

    private static void twoObjects() {
        PaidDebts x = scene();
        PaidDebts y = scene();
        y.set(1, 4, 99);
        y.move(1, 0);
        y.word(0, 0, 2);
        rule(y, 0, "l");
        rule(y, 1, "p");
        y.pay(1, 1);
        y.debt(1, 1, 1, 1);
        y.image();
        filled(y, 0, 0, 9, 9, 9);
        y.type('?', 1);
        askAll("beside another object", x, FIRST);
        due("29 its own image", x.restore(), 1);
        askAll("beside another object, restored", x, FIRST);
        due("10 its own tape", x.law(0), -20);
        due("8 the other object", y.count(0), 4);
    }

    /** A question ahead of a change, behind it, and behind the change that takes it back; each of them twice. */
    private static void tips(String name, PaidDebts x, Question question, long first, Change change, long then,
            Change back) {
        long[] answers = {first, then, first};
        Change[] changes = {y -> { }, change, back};
        for (int i = 0; i < 3; i++) {
            changes[i].on(x);
            due(name + ", time " + i, question.on(x), answers[i]);
            due(name + ", time " + i + " again", question.on(x), answers[i]);
        }
    }

    /** On day 10 just a whole has run, so that 101 wholes pay all; if more runs, some of it is left. */
    private static void whatRunsTips() {
        PaidDebts x = new PaidDebts();
        x.debt(100, 0, 8, 10);
        x.set(0, 1, 2);
        x.set(0, 3, 5);
        x.pay(10, 101);
        x.pay(20, 1);
        Change[] more = {y -> y.set(0, 0, 1), y -> y.set(0, 4, 11)};
        Change[] back = {y -> y.set(0, 0, 0), y -> y.set(0, 4, 10)};
        for (int i = 0; i < 2; i++) {
            tips("12 left", x, y -> y.left(0, 0, 10, 0), 0, more[i], i == 0 ? 45 : 1000, back[i]);
            tips("15 paid", x, y -> y.paid(0, 0), 10, more[i], 20, back[i]);
            tips("16 dead", x, y -> y.dead(0, 0, 20), 0, more[i], 1, back[i]);
            tips("17 wakes", x, y -> y.wakes(0, 0), -4, more[i], 20, back[i]);
            tips("18 free", x, y -> y.free(0, 2), 10, more[i], 20, back[i]);
            tips("19 rank", x, y -> y.rank(0, 19, 0), -4, more[i], 0, back[i]);
        }
        x = new PaidDebts();
        x.debt(100, 0, 0, 10);
        x.debt(100, 0, 0, 10);
        x.pay(10, 1);
        rule(x, 0, "c");
        rule(x, 1, "t");
        tips("20 best, upon itself", x, y -> y.best(0, 1, 50, 0), -1, y -> y.set(1, 0, 1), 1, y -> y.set(1, 0, 0));
        tips("22 answer, upon itself", x, y -> y.answer(1, 0, 50), -1, y -> y.set(0, 0, 1), 1, y -> y.set(0, 0, 0));
    }

    private static void whatIsPutTips() {
        PaidDebts x = new PaidDebts();
        x.debt(5, 0, 0, 0);
        x.debt(5, 0, 0, 0);
        x.set(0, 3, 10);
        x.set(1, 3, 10);
        rule(x, 0, "c");
        filled(x, 0, 0, 15, 1);
        x.image();
        tips("16 dead, payments from a sheet", x, y -> y.dead(0, 0, 20), 1, y -> y.pays(0, 0, 0, 1), 0, y -> y.restore());
        x.pays(0, 0, 0, 1);
        tips("16 dead, by a word", x, y -> y.dead(0, 1, 20), 1, y -> y.word(0, 0, 1), 0, y -> y.word(0, 0, -1));
        tips("17 wakes, by a word", x, y -> y.wakes(0, 1), -4, y -> y.word(0, 0, 1), 15, y -> y.word(0, 0, -1));
        tips("17 wakes, time", x, y -> y.wakes(0, 0), 15, y -> y.set(0, 3, 15), -4, y -> y.set(0, 3, 10));
        rule(x, 0, "ud");
        tips("17 wakes, a pledge", x, y -> y.wakes(0, 1), -4, y -> y.set(0, 1, 5), 15, y -> y.set(0, 1, -1));
        tips("17 wakes, one who stands", x, y -> y.wakes(0, 1), -4, y -> y.set(0, 2, 1), 15, y -> y.set(0, 2, 0));
        tips("17 wakes, due later", x, y -> y.wakes(0, 1), -4, y -> y.set(0, 5, 16), 15, y -> y.set(0, 5, 0));
        x.pay(15, 4);
        x.set(0, 1, 2);
        x.set(1, 1, 3);
        tips("18 free, due later", x, y -> y.free(0, 2), 15, y -> y.set(0, 5, 16), -4, y -> y.set(0, 5, 0));
        tips("18 free, a debt with it", x, y -> y.free(0, 2), 15, y -> y.set(1, 1, 2), -4, y -> y.set(1, 1, 3));
    }

    private static void securityTips() {
        PaidDebts x = new PaidDebts();
        x.debt(10, 0, 0, 0);
        x.debt(10, 0, 0, 50);
        x.pay(10, 2);
        rule(x, 0, "cu");
        tips("20 best, a pledge", x, y -> y.best(0, 1, 50, 0), 1, y -> y.set(0, 1, 3), -1, y -> y.set(0, 1, -1));
        tips("20 best, one who stands", x, y -> y.best(0, 1, 50, 0), 1, y -> y.set(0, 2, 1), -1, y -> y.set(0, 2, 0));
        x.set(0, 4, 50);
        x.set(1, 4, 0);
        rule(x, 1, "tu");
        tips("22 answer, a pledge", x, y -> y.answer(1, 0, 50), 1, y -> y.set(0, 1, 3), -1, y -> y.set(0, 1, -1));
        tips("22 answer, one who stands", x, y -> y.answer(1, 0, 50), 1, y -> y.set(0, 2, 1), -1, y -> y.set(0, 2, 0));
    }

    private static void images() {
        PaidDebts x = scene();
        x.image();
        askAll("behind an image", x, FIRST);
        x.restore();
        askAll("behind restore of what stands", x, FIRST);
        x.restore();
        askAll("behind restore again", x, FIRST);
        x = new PaidDebts();
        x.debt(3, 0, 0, 0);
        due("13 three wholes", x.owed(0, 9), 30000);
        x.image();
        x.pay(4, 1);
        due("13 two are left", x.owed(0, 9), 20000);
        x.image();
        x.move(0, 10);
        due("13 the payment comes too late", x.owed(0, 9), 30000);
        x.restore();
        due("13 as in the newer image", x.owed(0, 9), 20000);
        x.pay(5, 1);
        due("13 one is left", x.owed(0, 9), 10000);
        x.restore();
        due("13 as in the newer image again", x.owed(0, 9), 20000);
        due("4 the payment behind the image is gone, its number is free", x.pay(5, 2), 1);
        due("13 another one stands in its place", x.owed(0, 9), 0);
        due("14 of two wholes", x.put(0, 1, 0, 0), 20000);
        x.image();
        x.set(0, 4, 99);
        x.debt(9, 0, 0, 0);
        due("13 more is owed", x.owed(0, 4), 30000 + 4 * 297 - 10000 + 90000);
        x.restore();
        due("13 nothing runs, there is no debt 1", x.owed(0, 4), 20000);
        due("12 there is no debt 1", x.left(0, 1, 4, 2), -1);
        due("2 its number is free", x.debt(1, 0, 0, 0), 1);
        due("12 it has its own sum", x.left(0, 1, 4, 2), 10000);
    }

    /** An image keeps each of all things that can be changed; what is changed then does not touch it. */
    private static void imagesOfChanges() {
        PaidDebts x = scene();
        for (int what = 0; what < 6; what++) {
            for (int v = 0; v < 2; v++) {
                x.set(2, what, v);
                x.image();
                due("3 what stands, " + what, x.set(2, what, 1 - v), v);
                due("3 what was set behind the image, " + what, x.set(2, what, v), 1 - v);
                x.set(2, what, 1 - v);
                x.restore();
                due("29 what stood at the image, " + what, x.set(2, what, v), v);
            }
        }
        for (int v = -1; v < 3; v++) {
            x.word(2, 0, v);
            x.word(2, 1, 1 - v);
            x.move(2, 40 + v);
            x.image();
            x.word(2, 0, 0);
            x.word(2, 1, 0);
            x.move(2, 0);
            x.restore();
            due("29 the word at the image", x.word(2, 0, 1), v);
            due("29 the answer at the image", x.word(2, 1, 1), 1 - v);
            due("29 the day at the image", x.move(2, 1), 40 + v);
        }
        for (String text : new String[] {"l", "ct", "pxd"}) {
            rule(x, 1, text);
            x.image();
            rule(x, 1, "ouh");
            x.restore();
            for (int i = 0; i < text.length(); i++) {
                due("29 the law at the image", x.letter(1, i), text.charAt(i));
            }
            due("29 no more letters", x.letter(1, text.length()), -4);
        }
    }

    /** One book, as it grows and is put right. */
    private static void diary() {
        PaidDebts x = new PaidDebts();
        due("13 nothing yet", x.owed(0, 50), 0);
        x.debt(10, 0, 20, 0);
        due("13 ten wholes", x.owed(0, 50), 100000);
        x.pay(30, 4);
        due("13 six are left", x.owed(0, 50), 60000);
        due("15 not paid", x.paid(0, 0), -4);
        x.debt(6, 10, 15, 50);
        due("12 debt 1 runs by 300 a day", x.left(0, 1, 50, 1), 12000);
        due("14 the payment still goes to debt 0", x.put(0, 0, 0, 0), 40000);
        x.word(0, 0, 1);
        due("14 no word counts yet", x.put(0, 0, 0, 0), 40000);
        rule(x, 0, "c");
        due("14 now it does: to what has run", x.put(0, 0, 1, 1), 6000);
        due("14 and to the sum", x.put(0, 0, 1, 0), 34000);
        due("12 26000 run by 130", x.left(0, 1, 50, 1), 20 * 130);
        x.move(0, 9);
        due("14 debt 1 is not yet: the word does not count", x.put(0, 0, 1, 0), 0);
        due("14 so it goes to debt 0", x.put(0, 0, 0, 0), 40000);
        x.move(0, 10);
        due("14 on its first day nothing has run", x.put(0, 0, 1, 1), 0);
        due("14 all to the sum", x.put(0, 0, 1, 0), 40000);
        due("12 20000 run by 100", x.left(0, 1, 50, 1), 4000);
        due("25 by law 1 it goes to debt 0", x.parts(), 10);
        rule(x, 1, "h");
        due("25 no more: debt 1 is dearer", x.parts(), -4);
        x.set(0, 4, 60);
        due("25 debt 0 is dearer then", x.parts(), 10);
        due("26 by law 1 34000 less run at 60 and 40000 more at 50, for 40 days", x.gap(50), -40 * 204 + 40 * 200);
        x.set(0, 4, 0);
        due("26 as before", x.gap(50), 0);
        x.set(1, 3, 20);
        due("16 awake: it was paid on day 10, due on 15", x.dead(0, 1, 35), 0);
        due("16 dead", x.dead(0, 1, 36), 1);
        x.pay(36, 1);
        due("17 nothing wakes it", x.wakes(0, 1), -4);
        x.word(1, 0, 1);
        due("17 the word does", x.wakes(0, 1), 36);
        due("16 it is awake the day behind", x.dead(0, 1, 37), 0);
        x.image();
        x.set(1, 5, 16);
        due("17 due a day later it was not dead", x.wakes(0, 1), -4);
        x.restore();
        due("17 as it was", x.wakes(0, 1), 36);
        x.set(1, 1, 4);
        due("18 bound", x.free(0, 4), -4);
        x.pay(40, 3);
        due("18 bound still: the third goes to debt 0", x.free(0, 4), -4);
        x.word(2, 0, 1);
        due("18 free by its word", x.free(0, 4), 40);
        x.move(2, 35);
        due("18 free ahead of the second", x.free(0, 4), 35);
        due("17 so nothing wakes it", x.wakes(0, 1), -4);
        due("14 the second goes to debt 0", x.put(0, 1, 0, 0), 10000);
        due("14 and what is over of the third", x.put(0, 2, 0, 0), 30000 - 20000 - 25 * 100);
        x.restore();
        due("18 nothing of all this was", x.free(0, 4), -2);
        due("8 nor the third payment", x.count(1), 2);
    }
}
