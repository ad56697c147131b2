/** Nothing at all, and as much as there is room for. */
public final class EmptyAndFullTest extends Checks {
    private static final long EIGHT_BLANKS = 0x2020202020202020L;

    public static void main(String[] args) {
        newObject();
        noDebts();
        noPayments();
        noImage();
        imageOfNothing();
        imageOfAll();
        emptyLaw();
        emptyTape();
        emptySheet();
        missingSheets();
        eightDebts();
        eightDebtsByParts();
        eightDebtsChosen();
        twelvePayments();
        twelvePaymentsOfOneDay();
        twelveFromASheet();
        fortyBytes();
        fullSheet();
        lastCall();
        end("empty and full are as due");
    }

    /** Whatever another object holds. */
    private static void newObject() {
        Stand.made();
        PaidDebts x = new PaidDebts();
        for (int what = 0; what < 4; what++) {
            due("1 count " + what, x.count(what), 0);
        }
        for (int law = 0; law < 2; law++) {
            due("1 an empty law " + law, x.letter(law, 0), -4);
        }
        for (int sheet = 0; sheet < 4; sheet++) {
            due("1 a sheet that holds nothing " + sheet, x.drop(sheet), -11);
        }
        due("1 no image", x.restore(), -4);
        due("1 an empty tape", x.type('c', 1), 1);
    }

    private static void noDebts() {
        PaidDebts x = new PaidDebts();
        x.pay(10, 7);
        rule(x, 0, "c t x p d");
        due("3 no debt to set", x.set(0, 0, 0), -1);
        due("6 no debt for a word", x.word(0, 0, 0), -101);
        due("6 no word is fine", x.word(0, 0, -1), -1);
        due("12 no debt", x.left(0, 0, 10, 2), -1);
        due("13 nothing is owed", x.owed(0, 299), 0);
        due("14 no debt gets anything", x.put(0, 0, 0, 0), -1);
        due("14 all is spare", x.put(0, 0, -1, 0), 70000);
        due("15 no debt", x.paid(0, 0), -1);
        due("16 no debt", x.dead(0, 0, 299), -1);
        due("17 no debt", x.wakes(0, 0), -1);
        due("18 no debt has a pledge", x.free(0, 0), -2);
        due("19 none", x.rank(0, 299, 0), -4);
        due("20 no word is best", x.best(0, 1, 299, 0), -1);
        due("21 nothing is owed", x.least(0, 1, 299), 0);
        due("22 no answer is best", x.answer(0, 0, 299), -1);
        due("23 nothing hangs, least", x.hangs(0, 0, 0, 299, 299, 0), 0);
        due("23 nothing hangs, most", x.hangs(0, 0, 0, 299, 299, 1), 0);
        due("24 the first ends it", x.plan(0, 4, 33, 9, 0), 33);
        due("24 all of it is spare", x.plan(0, 4, 33, 9, 1), 40000);
        due("25 never", x.parts(), -4);
        due("26 none", x.gap(299), 0);
        x.sheet(0, 0, 1);
        due("27 of none", x.judge(0, 299, 0, 0, 0), -4);
        due("27 of none, at the end", x.judge(0, 299, 0, 0, 1), -4);
        due("27 behind the end", x.judge(0, 299, 0, 0, 2), -13);
        due("27 below", x.judge(0, 299, 0, 0, -1), -13);
    }

    private static void noPayments() {
        PaidDebts x = new PaidDebts();
        x.debt(10, 3, 9, 50);
        x.set(0, 1, 2);
        x.set(0, 3, 1);
        rule(x, 0, "x p");
        due("6 no payment", x.word(0, 0, -1), -101);
        due("7 no payment", x.move(0, 0), -1);
        due("12 all runs on", x.left(0, 0, 299, 1), 296 * 500);
        due("13 all is owed", x.owed(0, 299), 100000 + 296 * 500);
        due("14 no payment", x.put(0, 0, -1, 0), -1);
        due("15 never", x.paid(0, 0), -4);
        due("16 out of time", x.dead(0, 0, 299), 1);
        due("17 nothing wakes it", x.wakes(0, 0), -4);
        due("18 never", x.free(0, 2), -4);
        due("20 not", x.best(0, 1, 0, 0), -102);
        due("21 not", x.least(0, 1, 0), -2);
        due("22 no payment", x.answer(0, 0, 0), -101);
        due("23 no payment", x.hangs(0, 0, 0, 0, 0, 0), -1);
        due("25 never", x.parts(), -4);
        due("26 no gap", x.gap(299), 0);
    }

    private static void noImage() {
        PaidDebts x = Stand.made();
        due("29 there is an image", x.restore(), 1);
        x = new PaidDebts();
        x.debt(5, 0, 0, 0);
        rule(x, 0, "l");
        typed(x, "o");
        due("29 none", x.restore(), -4);
        due("29 none, still", x.restore(), -4);
        due("29 the debt stays", x.count(0), 1);
        due("29 the law stays", x.letter(0, 0), 'l');
        due("29 the tape stays", x.law(1), 1);
    }

    private static void imageOfNothing() {
        PaidDebts x = new PaidDebts();
        due("28 image", x.image(), 1);
        x.debt(5, 0, 0, 0);
        x.pay(1, 1);
        rule(x, 0, "l");
        x.sheet(1, 1, 4);
        typed(x, "o");
        due("29 restore", x.restore(), 1);
        due("29 no debts", x.count(0), 0);
        due("29 no payments", x.count(1), 0);
        due("29 an empty law", x.letter(0, 0), -4);
        due("29 not the tape", x.type('d', 1), 2);
        due("29 not the sheet", x.drop(1), 4);
        due("29 the image stays", x.restore(), 1);
        due("29 a new debt is the first", x.debt(6, 0, 0, 0), 0);
        due("29 of its own sum", x.owed(0, 0), 60000);
        due("29 a new payment is the first", x.pay(2, 2), 0);
    }

    private static void imageOfAll() {
        PaidDebts x = new PaidDebts();
        for (int d = 0; d < 8; d++) {
            x.debt(1 + d, d, d, d);
        }
        for (int p = 0; p < 12; p++) {
            x.pay(p, 1 + p);
            x.word(p, 0, p % 8);
            x.word(p, 1, 7 - p % 8);
        }
        rule(x, 0, "ctsxpdhuol");
        rule(x, 1, "louhdpxstc");
        long owed = x.owed(0, 299);
        x.image();
        for (int p = 0; p < 12; p++) {
            x.move(p, 299);
            x.word(p, 0, -1);
            x.word(p, 1, -1);
        }
        for (int d = 0; d < 8; d++) {
            x.set(d, 4, 99);
        }
        rule(x, 0, "c");
        rule(x, 1, "t");
        due("29 restore", x.restore(), 1);
        due("29 as much is owed", x.owed(0, 299), owed);
        for (int p = 0; p < 12; p++) {
            due("29 the day of " + p, x.move(p, 1), p);
            due("29 the word of " + p, x.word(p, 0, -1), p % 8);
            due("29 the answer of " + p, x.word(p, 1, -1), 7 - p % 8);
        }
        for (int d = 0; d < 8; d++) {
            due("29 the rate of " + d, x.set(d, 4, 0), d);
        }
        due("29 the first sum", x.left(1, 0, 0, 0), 10000);
        due("29 the last sum, ahead of since", x.left(1, 7, 6, 0), 0);
        due("29 the last sum", x.left(1, 7, 7, 0), 80000);
        for (int i = 0; i < 10; i++) {
            due("29 letter " + i + " of law 0", x.letter(0, i), "ctsxpdhuol".charAt(i));
            due("29 letter " + i + " of law 1", x.letter(1, i), "louhdpxstc".charAt(i));
        }
        due("29 still full of debts", x.debt(1, 1, 1, 1), -3);
        due("29 still full of payments", x.pay(1, 1), -3);
    }

    private static void emptyLaw() {
        PaidDebts x = new PaidDebts();
        x.debt(10, 0, 90, 0);
        x.debt(20, 0, 0, 50);
        x.set(0, 1, 1);
        x.set(1, 3, 5);
        x.pay(20, 12);
        x.word(0, 0, 1);
        x.word(0, 1, 1);
        due("11 no letter", x.letter(0, 0), -4);
        due("12 no word, no answer, no key: the first", x.put(0, 0, 0, 0), 100000);
        due("12 what is over to a dead one, run first", x.put(0, 0, 1, 1), 20000);
        due("12 run is left", x.left(0, 1, 20, 1), 0);
        due("17 without x it wakes", x.wakes(0, 1), 20);
        due("19 in their order", x.rank(0, 10, 0), 0);
        due("19 dead ones too", x.rank(0, 10, 1), 1);
        due("20 no word counts", x.best(0, 1, 99, 0), -1);
        due("22 no answer counts", x.answer(0, 0, 99), -1);
        due("25 two empty laws", x.parts(), -4);
    }

    private static void emptyTape() {
        PaidDebts x = new PaidDebts();
        due("10 no letter, the end is place 0", x.law(0), -20);
        rule(x, 1, "h c");
        due("10 empty behind a law", x.law(1), -20);
        due("10 the law stays", x.letter(1, 1), 'c');
        typed(x, "?");
        due("10 a fault", x.law(1), -20);
        due("10 empty behind a fault", x.type('o', 1), 1);
        due("10 one letter", x.law(1), 1);
    }

    private static void emptySheet() {
        PaidDebts x = new PaidDebts();
        for (int lane = 0; lane < 3; lane++) {
            due("30 of 0 items", x.sheet(lane, lane, 0), 0);
            due("32 no item 0", x.item(lane, lane, 0, 1), -13);
            due("32 no item below", x.item(lane, lane, -1, 1), -13);
            due("32 cast ahead of it", x.item(lane, (lane + 1) % 3, 0, 1), -12);
            due("5 no payments of it", x.pays(lane, lane, 0, 0), 0);
            due("5 no payment in it", x.pays(lane, lane, 0, 1), -13);
            due("5 from behind it", x.pays(lane, lane, 1, 0), -13);
            due("5 from below", x.pays(lane, lane, -1, 0), -13);
            due("27 no debts", x.judge(0, 0, lane, lane, 0), -4);
        }
        x.debt(1, 0, 0, 0);
        due("27 a debt and no item", x.judge(0, 0, 0, 0, 0), -13);
        due("31 it had 0 items", x.drop(0), 0);
        due("31 it holds nothing then", x.drop(0), -11);
        due("32 nothing to write", x.item(0, 0, 0, 1), -11);
    }

    private static void missingSheets() {
        PaidDebts x = new PaidDebts();
        for (int sheet = 0; sheet < 4; sheet++) {
            due("5 missing", x.pays(sheet, 0, 0, 0), -11);
            due("27 missing", x.judge(0, 0, sheet, 0, 0), -11);
            due("31 missing", x.drop(sheet), -11);
            due("32 missing", x.item(sheet, 0, 0, 0), -11);
        }
        filled(x, 2, 1, 5, 6);
        due("31 the others are still missing", x.drop(1), -11);
        due("30 another lane", x.sheet(2, 0, 1), 1);
        due("30 the old row is gone", x.item(2, 1, 0, 0), -12);
        due("30 the new one has fewer items", x.item(2, 0, 1, 0), -13);
        x.drop(2);
        x.sheet(2, 1, 2);
        due("30 a row behind a drop holds nothing of the old", x.pays(2, 1, 0, 1), -2);
    }

    private static PaidDebts eight() {
        PaidDebts x = new PaidDebts();
        for (int d = 0; d < 8; d++) {
            due("2 its number", x.debt(10 + d, 0, 8 - d, d), d);
        }
        return x;
    }

    private static void eightDebts() {
        PaidDebts x = eight();
        due("2 full", x.debt(1, 0, 0, 0), -3);
        due("8 eight", x.count(0), 8);
        due("12 the last", x.left(0, 7, 0, 2), 170000);
        due("13 all", x.owed(0, 0), 1080000);
        due("19 the last of rank", x.rank(0, 0, 7), 7);
        due("19 no ninth", x.rank(0, 0, 8), -4);
        due("25 two empty laws are alike for all eight", x.parts(), -4);
        rule(x, 0, "h");
        due("19 the dearest first", x.rank(0, 0, 0), 7);
        due("19 the cheapest last", x.rank(0, 0, 7), 0);
        for (int d = 0; d < 8; d++) {
            x.set(d, 1, 5);
            x.set(d, 2, 1);
        }
        due("8 eight pledges", x.count(2), 8);
        due("8 one stands for eight", x.count(3), 8);
        due("18 never", x.free(0, 5), -4);
        x.pay(40, 200);
        x.set(7, 3, 1);
        rule(x, 1, "x");
        due("25 the last alone is not left alike", x.parts(), 40);
        due("18 all at once", x.free(0, 5), 40);
        due("15 the last is paid", x.paid(0, 7), 40);
        filled(x, 0, 0, 10, 11, 12, 13, 14, 15, 16, 17);
        due("27 eight items are enough", x.judge(0, 0, 0, 0, 0), -4);
        due("27 none is over", x.judge(0, 0, 0, 0, 1), -13);
        x.item(0, 0, 7, 18);
        due("27 the last is not so", x.judge(0, 0, 0, 0, 0), 7);
        x.sheet(0, 0, 7);
        due("27 seven are too few", x.judge(0, 0, 0, 0, 0), -13);
        due("4 a word to the last", x.word(0, 0, 7), -1);
        due("4 no word to a ninth", x.word(0, 0, 8), -101);
        due("3 no ninth", x.set(8, 0, 0), -1);
    }

    private static void eightDebtsByParts() {
        PaidDebts x = new PaidDebts();
        for (int d = 0; d < 8; d++) {
            x.debt(3, 0, 0, 0);
        }
        x.pay(1, 7);
        rule(x, 0, "p");
        for (int d = 0; d < 8; d++) {
            due("14 an eighth", x.put(0, 0, d, 0), 8750);
        }
        x.pay(2, 3);
        due("14 30000 of 170000 by eight", x.put(0, 1, 7, 0), 3750);
        x.pay(3, 14);
        due("15 in full at once", x.paid(0, 0), 3);
        due("15 the last too", x.paid(0, 7), 3);
        due("14 nothing is spare", x.put(0, 2, -1, 0), 0);
    }

    private static void eightDebtsChosen() {
        PaidDebts x = new PaidDebts();
        for (int d = 0; d < 8; d++) {
            x.debt(10, 0, 0, d == 7 ? 99 : 0);
        }
        for (int p = 0; p < 3; p++) {
            x.pay(p, 1);
        }
        rule(x, 0, "c");
        for (int i = 0; i < 3; i++) {
            due("20 the last of eight, for each of three", x.best(0, 3, 99, i), 7);
        }
        x.set(7, 4, 0);
        x.set(0, 4, 99);
        rule(x, 0, "t");
        due("22 the first of eight that is not the dear one", x.answer(0, 0, 99), 1);
        x.debt(1, 0, 0, 0);
        due("22 the refused one is none to choose", x.count(0), 8);
        x = new PaidDebts();
        for (int d = 0; d < 8; d++) {
            x.debt(10, 0, 0, d == 7 ? 0 : 99);
        }
        x.pay(0, 1);
        rule(x, 0, "t");
        due("22 the last of eight", x.answer(0, 0, 99), 7);
    }

    private static void twelvePayments() {
        PaidDebts x = new PaidDebts();
        x.debt(100, 0, 0, 0);
        for (int p = 0; p < 12; p++) {
            due("4 its number", x.pay(20 - p, p + 1), p);
        }
        due("4 full", x.pay(1, 1), -3);
        due("8 twelve", x.count(1), 12);
        due("14 the last comes first", x.put(0, 11, 0, 0), 120000);
        due("13 behind the last of number", x.owed(0, 9), 880000);
        due("13 behind all", x.owed(0, 20), 220000);
        due("7 the last", x.move(11, 21), 9);
        due("7 no thirteenth", x.move(12, 0), -1);
        due("6 no word of a thirteenth", x.word(12, 0, -1), -101);
        due("14 no thirteenth", x.put(0, 12, 0, 0), -1);
        due("22 no thirteenth", x.answer(0, 12, 0), -101);
        due("23 no thirteenth", x.hangs(0, 12, 0, 0, 0, 0), -1);
        due("24 a plan has room behind twelve", x.plan(0, 35, 20, 1, 0), 20);
        due("24 of which what is over is spare", x.plan(0, 35, 20, 1, 1), 10000);
        due("4 still full", x.pay(1, 1), -3);
    }

    private static void twelvePaymentsOfOneDay() {
        PaidDebts x = new PaidDebts();
        x.debt(11, 7, 0, 0);
        for (int p = 0; p < 12; p++) {
            x.pay(7, 1);
        }
        for (int p = 0; p < 12; p++) {
            due("14 in the order of numbers", x.put(0, p, 0, 0), p < 11 ? 10000 : 0);
            due("14 the last is spare", x.put(0, p, -1, 0), p < 11 ? 0 : 10000);
        }
        due("15 on that day", x.paid(0, 0), 7);
        due("24 behind all twelve", x.plan(0, 1, 7, 1, 1), 10000);
    }

    private static void twelveFromASheet() {
        PaidDebts x = new PaidDebts();
        x.sheet(3, 2, 24);
        for (int p = 0; p < 12; p++) {
            x.item(3, 2, 2 * p, p == 0 ? 0 : p == 11 ? 299 : p);
            x.item(3, 2, 2 * p + 1, p == 0 ? 9999 : p == 11 ? 1 : p);
        }
        due("5 twelve", x.pays(3, 2, 0, 12), 12);
        due("5 the first, of the greatest sum", x.put(0, 0, -1, 0), 99990000);
        due("5 the last, of the least", x.put(0, 11, -1, 0), 10000);
        due("5 the first day", x.move(0, 1), 0);
        due("5 the last day", x.move(11, 1), 299);
        due("5 no word", x.word(11, 0, -1), -1);
        due("5 no answer", x.word(11, 1, -1), -1);
        due("5 full", x.pays(3, 2, 0, 1), -3);
        due("5 none is no more", x.pays(3, 2, 0, 0), 0);
        due("8 twelve", x.count(1), 12);
        int[][] wrong = {{-1, 1}, {300, 1}, {5, 0}, {5, 10000}, {5, -1}, {Integer.MIN_VALUE, 1}, {5, Integer.MAX_VALUE}};
        x = new PaidDebts();
        for (int[] pair : wrong) {
            filled(x, 0, 2, 1, 1, pair[0], pair[1]);
            due("5 not as told: " + pair[0] + ", " + pair[1], x.pays(0, 2, 0, 2), -2);
            due("5 nor the one ahead of it", x.count(1), 0);
        }
    }

    private static void fortyBytes() {
        PaidDebts x = new PaidDebts();
        for (int i = 1; i <= 4; i++) {
            due("9 so many", x.type(EIGHT_BLANKS, 8), 8 * i);
        }
        due("9 no room for nine, so eight", x.type(0x202020202020206cL, 8), 40);
        due("9 full", x.type('o', 1), -3);
        due("10 a letter on the last place", x.law(0), 1);
        due("11 it is", x.letter(0, 0), 'l');
        for (int i = 1; i <= 5; i++) {
            x.type(EIGHT_BLANKS, 8);
        }
        due("10 forty blanks", x.law(0), -60);
        for (int i = 1; i <= 4; i++) {
            x.type(EIGHT_BLANKS, 8);
        }
        x.type(0x2020202020206cL, 7);
        for (int n = 2; n <= 8; n++) {
            due("9 one place, not " + n, x.type(EIGHT_BLANKS, n), -3);
        }
        due("9 the last place", x.type('l', 1), 40);
        due("10 a letter that was there, on the last place", x.law(0), -59);
        due("11 the law stays", x.letter(0, 0), 'l');
        for (int i = 1; i <= 4; i++) {
            x.type(EIGHT_BLANKS, 8);
        }
        x.type(0x20202020202020L, 7);
        x.type('~', 1);
        due("10 no letter, on the last place", x.law(0), -59);
    }

    private static void fullSheet() {
        PaidDebts x = new PaidDebts();
        for (int lane = 0; lane < 3; lane++) {
            due("30 24 items", x.sheet(lane, lane, 24), 24);
            due("32 the last", x.item(lane, lane, 23, 1), 1);
            due("32 none behind it", x.item(lane, lane, 24, 1), -13);
            due("5 the last pair", x.pays(lane, lane, 22, 1), 1);
            due("5 none behind it", x.pays(lane, lane, 23, 1), -13);
            due("5 nothing at the end", x.pays(lane, lane, 24, 0), 0);
            due("5 nothing behind the end", x.pays(lane, lane, 25, 0), -13);
        }
        due("30 one too many", x.sheet(0, 0, 25), -1);
        due("31 it keeps its items", x.drop(0), 24);
        x.debt(1, 0, 0, 0);
        due("27 the last item tells 1, where nothing is left", x.judge(0, 0, 1, 1, 23), 0);
        due("27 none behind it", x.judge(0, 0, 1, 1, 24), -13);
    }

    /** An object has 512 calls. */
    private static void lastCall() {
        PaidDebts x = new PaidDebts();
        for (int i = 0; i < 510; i++) {
            due("32 call", x.item(0, 0, 0, 0), -11);
        }
        due("2 the 511th call", x.debt(9999, 0, 0, 99), 0);
        due("13 the 512th call", x.owed(0, 299), 99990000L + 299 * 989901L);
    }
}
