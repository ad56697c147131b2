/** Best words and best answers: which of like ones is first, and what they are weighed by. */
public final class ChoicesTest extends Checks {
    public static void main(String[] args) {
        noneAheadOfDebts();
        paymentNoughtCountsMost();
        threeInAnotherOrder();
        ownWordsDoNotCount();
        otherWordsStay();
        wordsToPaidOnes();
        keptAwakeByOthers();
        onlyTheFirst();
        answers();
        answersBesideWords();
        singleParts();
        end("all choices are as due");
    }

    /** Two debts of one whole, of which the second is dead from day 2 on: it gets something by a word alone. */
    private static PaidDebts oneAsleep(int... days) {
        PaidDebts x = new PaidDebts();
        x.debt(1, 0, 0, 0);
        x.debt(1, 0, 0, 0);
        x.set(1, 3, 1);
        for (int day : days) {
            x.pay(day, 1);
        }
        rule(x, 0, "x c");
        return x;
    }

    private static void choice(String name, PaidDebts x, int day, int... words) {
        for (int i = 0; i < words.length; i++) {
            due("20 " + name + ", payment " + i, x.best(0, words.length, day, i), words[i]);
        }
    }

    private static void noneAheadOfDebts() {
        PaidDebts x = oneAsleep(20);
        choice("either debt is as good: none", x, 99, -1);
        due("21 one whole is owed", x.least(0, 1, 99), 10000);
        x.set(0, 4, 1);
        due("21 the first runs, so none is best", x.least(0, 1, 99), 10000 + 20);
        choice("the first runs, so none is best", x, 99, -1);
        x.set(0, 4, 0);
        x.set(1, 4, 1);
        choice("the second runs, so it is best", x, 99, 1);
        x.debt(1, 0, 0, 1);
        choice("two run alike: the first of them", x, 99, 1);
        x.set(2, 4, 2);
        choice("the third runs more", x, 99, 2);
    }

    private static void paymentNoughtCountsMost() {
        PaidDebts x = oneAsleep(20, 30);
        choice("in the order of numbers", x, 99, -1, 1);
        due("21 nothing is owed", x.least(0, 2, 99), 0);
        x = oneAsleep(30, 20);
        choice("against the order of numbers", x, 99, -1, 1);
        due("21 nothing is owed either", x.least(0, 2, 99), 0);
        x = oneAsleep(20, 20);
        choice("on one day", x, 99, -1, 1);
        choice("the first alone", x, 99, 1);
        choice("on the day itself", x, 20, -1, 1);
        choice("the day ahead nothing hangs on it", x, 19, -1, -1);
        x = oneAsleep(30, 20);
        choice("on a day between, only the second has come", x, 25, -1, -1);
        due("21 one whole is owed then", x.least(0, 2, 25), 10000);
    }

    private static void threeInAnotherOrder() {
        int[][] days = {{10, 20, 30}, {30, 20, 10}, {20, 30, 10}, {30, 10, 20}, {10, 30, 20}, {20, 10, 30}};
        for (int[] d : days) {
            PaidDebts x = oneAsleep(d);
            choice("of three the last one that will do", x, 99, -1, -1, 1);
            x.debt(1, 0, 0, 0);
            x.set(2, 3, 1);
            choice("two asleep, the lower number for the lower payment", x, 99, -1, 1, 2);
            due("21 nothing is owed", x.least(0, 3, 99), 0);
        }
    }

    private static void ownWordsDoNotCount() {
        PaidDebts x = oneAsleep(20, 30);
        x.word(0, 0, 0);
        x.word(1, 0, 0);
        choice("words that stand are not kept", x, 99, -1, 1);
        due("6 but nothing is written", x.word(0, 0, 0), 0);
        due("6 nothing is written of the other either", x.word(1, 0, 0), 0);
        due("13 what they do is bad", x.owed(0, 99), 10000);
        rule(x, 0, "x");
        due("20 without c no word counts", x.best(0, 2, 99, 1), -1);
        due("21 without c", x.least(0, 2, 99), 10000);
    }

    private static void otherWordsStay() {
        PaidDebts x = oneAsleep(20, 30);
        x.word(1, 0, 1);
        choice("the word of the second is there already", x, 99, -1);
        due("21 nothing is owed", x.least(0, 1, 99), 0);
        x.word(1, 0, 0);
        choice("the second goes to debt 0", x, 99, 1);
        x.word(1, 0, -1);
        choice("the second has no word", x, 99, 1);
        x.word(1, 1, 1);
        rule(x, 0, "x c t");
        choice("an answer of the second", x, 99, -1);
        x.word(0, 1, 1);
        choice("its own answer counts, so that of the second goes on", x, 99, -1);
        x.pay(10, 1);
        choice("with one more debt 0 is paid ahead of both", x, 99, -1);
        rule(x, 0, "x c");
        choice("without t it is to be told by a word", x, 99, 1);
    }

    private static void wordsToPaidOnes() {
        PaidDebts x = new PaidDebts();
        x.debt(1, 0, 0, 99);
        x.debt(1, 50, 0, 99);
        x.debt(1, 0, 0, 50);
        x.pay(0, 1);
        x.pay(1, 1);
        rule(x, 0, "c");
        choice("the dearest, the next dearest; none does both", x, 99, -1, -1);
        due("21 what is owed then", x.least(0, 2, 99), 50 + 10000 + 49 * 99);
        rule(x, 0, "c l");
        x.debt(9, 0, 0, 0);
        choice("by l words are needed for both", x, 99, 0, 2);
    }

    /** Debt 7 is awake on day 15, because payment 1 came on day 8. */
    private static void keptAwakeByOthers() {
        PaidDebts x = new PaidDebts();
        for (int d = 0; d < 7; d++) {
            x.debt(1, 200, 0, 0);
        }
        x.debt(5, 0, 0, 0);
        x.set(7, 3, 10);
        x.pay(15, 1);
        x.pay(8, 1);
        rule(x, 0, "c x");
        due("20 no word is needed", x.best(0, 1, 99, 0), -1);
        due("21 both are put", x.least(0, 1, 99), 30000);
        x.move(1, 4);
        due("20 a word is needed", x.best(0, 1, 99, 0), 7);
        due("21 both are put by it", x.least(0, 1, 99), 30000);
    }

    private static void onlyTheFirst() {
        PaidDebts x = oneAsleep(20, 21, 22, 23);
        x.debt(1, 0, 0, 0);
        x.set(2, 3, 1);
        x.word(3, 0, 2);
        choice("of four payments three are chosen", x, 99, -1, -1, 1);
        due("21 nothing is owed", x.least(0, 3, 99), 0);
        choice("two are chosen", x, 99, -1, 1);
        choice("one is chosen", x, 99, 1);
        x.word(2, 0, 1);
        choice("one is chosen beside two words", x, 99, -1);
    }

    private static void answers() {
        PaidDebts x = oneAsleep(20);
        rule(x, 0, "x t");
        due("22 either way one whole is owed: none", x.answer(0, 0, 99), -1);
        x.set(0, 4, 1);
        due("22 the first runs: the second is most owed", x.answer(0, 0, 99), 1);
        x.debt(1, 0, 0, 0);
        x.set(2, 3, 1);
        due("22 the second and third are alike: the first of them", x.answer(0, 0, 99), 1);
        due("22 the day ahead of the payment nothing hangs on it", x.answer(0, 0, 19), -1);
        x.word(0, 1, 0);
        due("22 an answer that stands is not kept", x.answer(0, 0, 99), 1);
        due("6 nothing is written", x.word(0, 1, 0), 0);
        rule(x, 0, "t x l");
        x.debt(1, 0, 0, 1);
        x.set(2, 4, 9);
        due("22 by what is left: none goes to debt 0, as 0 does; 1 leaves more", x.answer(0, 0, 99), 1);
        x = oneAsleep(20, 30);
        rule(x, 0, "x t");
        due("22 most is owed by none", x.answer(0, 0, 99), -1);
        x.word(1, 1, 0);
        due("22 most is owed by none, as the second goes to debt 0 too", x.answer(0, 0, 99), -1);
        x.word(1, 1, 1);
        due("22 all is paid either way", x.answer(0, 0, 99), -1);
    }

    private static void answersBesideWords() {
        PaidDebts x = oneAsleep(20);
        rule(x, 0, "x t c");
        x.set(0, 4, 1);
        x.word(0, 0, 0);
        due("22 a word that counts stands against it", x.answer(0, 0, 99), -1);
        x.debt(1, 50, 0, 0);
        x.word(0, 0, 2);
        due("22 one that does not, does not", x.answer(0, 0, 99), 1);
    }

    /** On the second day a single part has run on one of two debts, if it was not paid on the first. */
    private static void singleParts() {
        PaidDebts x = new PaidDebts();
        x.debt(1, 0, 0, 0);
        x.debt(1, 0, 0, 1);
        x.pay(0, 1);
        x.pay(1, 1);
        rule(x, 0, "c");
        rule(x, 1, "t h");
        due("13 a single part is owed", x.owed(0, 9), 1);
        due("20 a single part less", x.best(0, 1, 9, 0), 1);
        due("21 nothing is owed", x.least(0, 1, 9), 0);
        due("13 nothing is owed by law 1", x.owed(1, 9), 0);
        due("22 a single part more", x.answer(1, 0, 9), 0);
        due("26 a single part between the laws", x.gap(9), -1);
        due("25 by which they part", x.parts(), 0);
    }
}
