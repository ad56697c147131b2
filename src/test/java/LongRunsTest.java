/** Runs of 512 calls on one object, as many as it has: the last is answered as the first would be. */
public final class LongRunsTest extends Checks {
    private static final int CALLS = 512;

    private interface Call {
        long on(PaidDebts x);
    }

    private final PaidDebts x = new PaidDebts();
    private final String run;
    private int calls = 0;

    private LongRunsTest(String run) {
        this.run = run;
    }

    public static void main(String[] args) {
        new LongRunsTest("rates").rates();
        new LongRunsTest("days").days();
        new LongRunsTest("words").words();
        new LongRunsTest("pledges").pledges();
        new LongRunsTest("laws").laws();
        new LongRunsTest("images").images();
        new LongRunsTest("sheets").sheets();
        new LongRunsTest("refused ones").refusedOnes();
        new LongRunsTest("the greatest book").greatestBook();
        end("all long runs are as due");
    }

    private void is(String call, long got, long due) {
        calls++;
        due(run + ", call " + calls + ": " + call, got, due);
    }

    private void wasLast() {
        due(run + ": so many calls", calls, CALLS);
    }

    /** 100000 parts run by ten times the rate a day. */
    private void rates() {
        is("2 debt", x.debt(10, 0, 0, 0), 0);
        is("12 nothing runs", x.left(0, 0, 9, 1), 0);
        int old = 0;
        for (int i = 0; i < 255; i++) {
            int rate = i * 37 % 100;
            is("3 what it was", x.set(0, 4, rate), old);
            is("12 by the rate that stands", x.left(0, 0, 9, 1), 90L * rate);
            old = rate;
        }
        wasLast();
    }

    private void days() {
        is("2 debt", x.debt(7, 0, 0, 0), 0);
        is("4 pay", x.pay(0, 7), 0);
        int old = 0;
        for (int i = 0; i < 255; i++) {
            int day = i * 101 % 300;
            is("7 what it was", x.move(0, day), old);
            is("15 on the day that stands", x.paid(0, 0), day);
            old = day;
        }
        wasLast();
    }

    private void words() {
        for (int d = 0; d < 8; d++) {
            is("2 debt", x.debt(2, 0, 0, 0), d);
        }
        is("4 pay", x.pay(3, 1), 0);
        is("9 type", x.type('c', 1), 1);
        is("10 law", x.law(0), 1);
        int old = -1;
        for (int i = 0; i < 167; i++) {
            int word = i * 5 % 9 - 1;
            is("6 what it was", x.word(0, 0, word), old);
            is("14 to the debt that is named, or to the first", x.put(0, 0, Math.max(0, word), 0), 10000);
            is("14 to no other", x.put(0, 0, word == 7 ? 6 : 7, 0), 0);
            old = word;
        }
        wasLast();
    }

    /** Of two debts the one that is not secured goes first. */
    private void pledges() {
        is("2 debt", x.debt(2, 0, 0, 0), 0);
        is("2 debt", x.debt(2, 0, 0, 0), 1);
        is("9 type", x.type('u', 1), 1);
        is("10 law", x.law(1), 1);
        int[] pledge = {-1, -1};
        for (int i = 0; i < 127; i++) {
            int changed = i % 3 == 0 ? 0 : 1;
            int next = i % 7 - 1;
            is("3 what it was", x.set(changed, 1, next), pledge[changed]);
            pledge[changed] = next;
            int first = pledge[0] >= 0 && pledge[1] < 0 ? 1 : 0;
            is("19 by pledges that stand", x.rank(1, 9, 0), first);
            is("19 the other one", x.rank(1, 9, 1), 1 - first);
            is("8 pledges", x.count(2), (pledge[0] >= 0 ? 1 : 0) + (pledge[1] >= 0 ? 1 : 0));
        }
        wasLast();
    }

    /** By h debt 0 goes first, by o and l debt 1; by all other letters they are alike. */
    private void laws() {
        String letters = "ctsxpdhuol";
        is("2 debt", x.debt(2, 1, 0, 5), 0);
        is("2 debt", x.debt(3, 0, 0, 0), 1);
        for (int i = 0; i < 85; i++) {
            int place = i % 10;
            char one = letters.charAt(place);
            char two = letters.charAt((place + 1 + i / 10) % 10);
            char key = "hol".indexOf(one) >= 0 ? one : two;
            int law = i % 2;
            is("9 behind an empty tape", x.type(one * 256L + two, 2), 2);
            is("10 two letters", x.law(law), 2);
            is("11 the first", x.letter(law, 0), one);
            is("11 the second", x.letter(law, 1), two);
            is("11 no third", x.letter(law, 2), -4);
            is("19 by this law", x.rank(law, 1, 0), key == 'o' || key == 'l' ? 1 : 0);
        }
        wasLast();
    }

    private void images() {
        is("29 none", x.restore(), -4);
        is("2 debt", x.debt(10, 0, 0, 0), 0);
        int old = 0;
        for (int i = 0; i < 85; i++) {
            int rate = i * 37 % 100;
            is("3 what it was", x.set(0, 4, rate), old);
            is("28 image", x.image(), 1);
            is("3 what it was at the image", x.set(0, 4, 99 - rate), rate);
            is("12 by what stands then", x.left(0, 0, 9, 1), 90L * (99 - rate));
            is("29 restore", x.restore(), 1);
            is("12 by what stood at the image", x.left(0, 0, 9, 1), 90L * rate);
            old = rate;
        }
        wasLast();
    }

    private void sheets() {
        is("31 nothing at first", x.drop(0), -11);
        for (int i = 0; i < 73; i++) {
            int sheet = i % 4, lane = i % 3, n = 2 + i % 23;
            is("30 a row", x.sheet(sheet, lane, n), n);
            is("32 its last item", x.item(sheet, lane, n - 1, 1), 1);
            is("32 no further one", x.item(sheet, lane, n, 1), -13);
            is("32 another lane", x.item(sheet, (lane + 1) % 3, 0, 1), -12);
            is("5 of its last two items, while there is room", x.pays(sheet, lane, n - 2, 1), i < 12 ? 1 : -3);
            is("8 so many", x.count(1), Math.min(12, i + 1));
            is("31 it had so many", x.drop(sheet), n);
        }
        wasLast();
    }

    private void refusedOnes() {
        is("2 debt", x.debt(5, 0, 0, 0), 0);
        is("4 pay", x.pay(3, 2), 0);
        Call[] refused = {y -> y.debt(0, 0, 0, 0), y -> y.set(1, 0, 0), y -> y.pay(300, 1), y -> y.pays(0, 0, 0, 1),
            y -> y.word(1, 0, 0), y -> y.move(0, 300), y -> y.count(4), y -> y.type(0, 1), y -> y.law(2),
            y -> y.letter(0, 0), y -> y.left(2, 0, 0, 0), y -> y.owed(0, 300), y -> y.put(0, 1, 0, 0),
            y -> y.paid(0, 1), y -> y.dead(0, 1, 0), y -> y.wakes(0, 0), y -> y.free(0, 0), y -> y.rank(0, 9, 1),
            y -> y.best(0, 2, 9, 0), y -> y.least(0, 2, 9), y -> y.answer(0, 1, 9), y -> y.hangs(0, 0, 5, 4, 9, 0),
            y -> y.plan(0, 1, 298, 60, 0), y -> y.parts(), y -> y.gap(300), y -> y.judge(0, 9, 0, 0, 0),
            y -> y.restore(), y -> y.sheet(0, 0, -1), y -> y.drop(0), y -> y.item(0, 0, 0, 0)};
        long[] answers = {-1, -1, -1, -11, -101, -1, -1, -1, -1, -4, -1, -1, -1, -1, -1, -4, -2, -4, -102, -2, -101, -1,
            -4, -4, -1000000000001L, -11, -4, -14, -11, -11};
        for (int i = 0; i < 508; i++) {
            int kind = i % refused.length;
            is("refused, kind " + kind, refused[kind].on(x), answers[kind]);
        }
        is("13 what is left all the same", x.owed(0, 3), 30000);
        is("8 payments all the same", x.count(1), 1);
        wasLast();
    }

    /** The dearest questions over and over: 8 debts upon themselves, 12 payments, words for three of them. */
    private void greatestBook() {
        Model model = new Model();
        for (int d = 0; d < 8; d++) {
            is("2 debt", x.debt(9999 - d, d, d, 99 - d), model.debt(9999 - d, d, d, 99 - d));
            is("3 set", x.set(d, 0, 1), model.set(d, 0, 1));
            is("3 set", x.set(d, 3, 100 + d), model.set(d, 3, 100 + d));
        }
        for (int p = 0; p < 12; p++) {
            is("4 pay", x.pay(10 + 20 * p, 9999), model.pay(10 + 20 * p, 9999));
        }
        is("9 type", x.type(0x637870L, 3), model.type(0x637870L, 3));
        is("10 law", x.law(0), model.law(0));
        is("9 type", x.type(0x74736cL, 3), model.type(0x74736cL, 3));
        is("10 law", x.law(1), model.law(1));
        Call[] asked = {y -> y.best(0, 3, 299, 0), y -> y.best(0, 3, 299, 1), y -> y.best(0, 3, 299, 2),
            y -> y.least(0, 3, 299), y -> y.least(1, 3, 299), y -> y.hangs(0, 0, 0, 299, 299, 0),
            y -> y.hangs(1, 11, 0, 299, 299, 1), y -> y.answer(1, 0, 299), y -> y.plan(0, 9999, 0, 1, 0),
            y -> y.plan(1, 9999, 0, 60, 1), y -> y.parts(), y -> y.gap(299), y -> y.owed(0, 299),
            y -> y.left(1, 7, 299, 2), y -> y.put(0, 11, 0, 1), y -> y.rank(1, 299, 7), y -> y.paid(0, 7)};
        long[] answers = {model.best(0, 3, 299, 0), model.best(0, 3, 299, 1), model.best(0, 3, 299, 2),
            model.least(0, 3, 299), model.least(1, 3, 299), model.hangs(0, 0, 0, 299, 299, 0),
            model.hangs(1, 11, 0, 299, 299, 1), model.answer(1, 0, 299), model.plan(0, 9999, 0, 1, 0),
            model.plan(1, 9999, 0, 60, 1), model.parts(), model.gap(299), model.owed(0, 299), model.left(1, 7, 299, 2),
            model.put(0, 11, 0, 1), model.rank(1, 299, 7), model.paid(0, 7)};
        for (int i = 0; calls < CALLS; i++) {
            int kind = i * 5 % asked.length;
            is("question " + kind, asked[kind].on(x), answers[kind]);
        }
        wasLast();
    }
}
