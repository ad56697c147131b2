/** What is cut: what runs on in a day, shares by parts, wholes that are told, bits that have no room in a lane. */
public final class CutsTest extends Checks {
    public static void main(String[] args) {
        runsByTheDay();
        runsByWhatWasLeft();
        runsUponItself();
        greatestRun();
        runOfASinglePart();
        sharesAreCut();
        cutsGoOneBehindTheOther();
        cutsOfSingleParts();
        inFullOrNot();
        sharesBehindAWord();
        sharesToSumAndRun();
        sharesOfLikeOnes();
        spare();
        wholesAreCut();
        bytes();
        shorts();
        ints();
        bitsInPayments();
        end("all cuts are as due");
    }

    private static void runsByTheDay() {
        PaidDebts x = new PaidDebts();
        x.debt(2, 0, 0, 1);
        due("12 2 a day", x.left(0, 0, 1, 1), 2);
        x.pay(0, 1);
        due("12 1 a day", x.left(0, 0, 10, 1), 10);
        x.pay(10, 1);
        due("12 10 are left of the sum", x.left(0, 0, 10, 0), 10);
        due("12 by which nothing runs", x.left(0, 0, 299, 1), 0);
        x = new PaidDebts();
        x.debt(3, 0, 0, 1);
        x.pay(1, 1);
        due("12 a sum of 20003", x.left(0, 0, 1, 0), 20003);
        due("12 runs by 2 a day, not by 2.0003", x.left(0, 0, 299, 1), 298 * 2);
        x.set(0, 4, 99);
        due("12 20297 by 99: 200.94 are 200", x.left(0, 0, 2, 1), 200);
        due("12 each day anew", x.left(0, 0, 11, 1), 2000);
        x.set(0, 4, 0);
        due("12 a rate of 0", x.left(0, 0, 299, 2), 20000);
    }

    private static void runsByWhatWasLeft() {
        PaidDebts x = new PaidDebts();
        x.debt(10, 0, 0, 50);
        x.pay(4, 5);
        rule(x, 0, "s");
        due("12 the day ahead", x.left(0, 0, 3, 1), 1500);
        due("12 on the day of the payment by the sum ahead of it", x.left(0, 0, 4, 1), 2000);
        due("12 the day behind by the sum that is left", x.left(0, 0, 5, 1), 2250);
        x.set(0, 0, 1);
        due("12 upon itself likewise: the day of the payment", x.left(0, 0, 4, 1), 500 + 502 + 505 + 507);
        due("12 upon itself likewise: the day behind", x.left(0, 0, 5, 1), 2014 + 260);
    }

    private static void runsUponItself() {
        PaidDebts x = new PaidDebts();
        x.debt(1, 0, 0, 50);
        x.set(0, 0, 1);
        long[] run = {0, 50, 100, 150, 200, 251};
        for (int day = 0; day < run.length; day++) {
            due("12 upon itself, day " + day, x.left(0, 0, day, 1), run[day]);
        }
        due("12 the sum stays", x.left(0, 0, 5, 0), 10000);
        x.set(0, 0, 0);
        due("12 simply", x.left(0, 0, 5, 1), 250);
    }

    private static void greatestRun() {
        PaidDebts x = new PaidDebts();
        long left = 99990000;
        long all = 0;
        for (int d = 0; d < 8; d++) {
            x.debt(9999, 0, 0, 99);
            x.set(d, 0, 1);
        }
        for (int day = 1; day < 300; day++) {
            left += left * 99 / 10000;
        }
        for (int d = 0; d < 8; d++) {
            due("12 the greatest debt on the last day", x.left(0, d, 299, 2), left);
            all += left;
        }
        due("13 eight of them", x.owed(0, 299), all);
        x.pay(299, 9999);
        rule(x, 0, "p");
        due("14 shares of the greatest amounts, an eighth", x.put(0, 0, 7, 1), 99990000 / 8);
        due("14 nothing is spare", x.put(0, 0, -1, 0), 0);
        due("24 nor enough", x.plan(0, 9999, 299, 1, 0), -4);
    }

    private static void runOfASinglePart() {
        PaidDebts x = new PaidDebts();
        x.debt(1, 0, 0, 1);
        due("12 1 of 10000 by 1", x.left(0, 0, 1, 1), 1);
        x.pay(1, 1);
        due("12 a single part is left", x.left(0, 0, 1, 2), 1);
        due("12 by which nothing runs", x.left(0, 0, 299, 2), 1);
        x.set(0, 0, 1);
        due("12 nor upon itself", x.left(0, 0, 299, 2), 1);
        rule(x, 0, "s");
        due("12 of what has run", x.left(0, 0, 299, 1), 1);
        due("12 not of the sum", x.left(0, 0, 299, 0), 0);
    }

    private static void sharesAreCut() {
        PaidDebts x = new PaidDebts();
        x.debt(1, 0, 0, 0);
        x.debt(2, 0, 0, 0);
        x.debt(4, 0, 0, 0);
        x.pay(0, 3);
        rule(x, 0, "p");
        due("14 30000 * 1 / 7 = 4285.7, and both that the cuts leave", x.put(0, 0, 0, 0), 4287);
        due("14 30000 * 2 / 7 = 8571.4", x.put(0, 0, 1, 0), 8571);
        due("14 30000 * 4 / 7 = 17142.9", x.put(0, 0, 2, 0), 17142);
        due("14 nothing is spare", x.put(0, 0, -1, 0), 0);
    }

    private static void cutsGoOneBehindTheOther() {
        PaidDebts x = new PaidDebts();
        for (int d = 0; d < 7; d++) {
            x.debt(1, 0, 0, 0);
        }
        x.pay(0, 1);
        rule(x, 0, "p");
        due("14 10000 / 7 = 1428, and all 4 of the cuts", x.put(0, 0, 0, 0), 1432);
        for (int d = 1; d < 7; d++) {
            due("14 10000 / 7 = 1428, to " + d, x.put(0, 0, d, 0), 1428);
        }
        rule(x, 0, "p h");
        x.set(6, 4, 1);
        due("14 not like by h: first and in full", x.put(0, 0, 6, 0), 10000);
    }

    /** Debts of a single part each, and 2 parts that are over behind a word. */
    private static void cutsOfSingleParts() {
        PaidDebts x = new PaidDebts();
        x.debt(3, 0, 0, 66);
        for (int d = 1; d <= 3; d++) {
            x.debt(1, 0, 0, 1);
        }
        x.pay(1, 1);
        x.pay(1, 1);
        x.pay(1, 1);
        for (int p = 0; p < 3; p++) {
            x.word(p, 0, p + 1);
        }
        x.pay(101, 4);
        x.word(3, 0, 0);
        rule(x, 0, "c p");
        due("12 9998 are left", x.left(0, 0, 101, 2), 9998);
        due("12 a single part", x.left(0, 3, 101, 2), 1);
        x.pay(101, 1);
        x.word(4, 0, 0);
        due("14 9998 by the word", x.put(0, 4, 0, 0) + x.put(0, 4, 0, 1), 9998);
        due("14 2 by 3 is cut to 0; of the 2, 1 to the first", x.put(0, 4, 1, 0) + x.put(0, 4, 1, 1), 1);
        due("14 of the 2, 1 to the second", x.put(0, 4, 2, 0) + x.put(0, 4, 2, 1), 1);
        due("14 nothing to the third", x.put(0, 4, 3, 0) + x.put(0, 4, 3, 1), 0);
        due("14 nothing is spare", x.put(0, 4, -1, 0), 0);
        due("15 the first is paid", x.paid(0, 1), 101);
        due("15 the third is not", x.paid(0, 3), -4);
        x.debt(1, 101, 0, 0);
        due("14 2 by 10003: to a great one 1.9994 are 1", x.put(0, 4, 4, 0), 1);
        due("14 the 1 that the cuts leave to the first", x.put(0, 4, 1, 0) + x.put(0, 4, 1, 1), 1);
        due("14 none to the second", x.put(0, 4, 2, 0) + x.put(0, 4, 2, 1), 0);
    }

    private static void inFullOrNot() {
        PaidDebts x = new PaidDebts();
        x.debt(2, 0, 0, 0);
        x.debt(3, 0, 0, 0);
        x.debt(9, 0, 0, 0);
        x.set(0, 4, 1);
        x.set(1, 4, 1);
        x.pay(0, 5);
        rule(x, 0, "p h");
        due("14 just enough for both: the first", x.put(0, 0, 0, 0), 20000);
        due("14 just enough for both: the second", x.put(0, 0, 1, 0), 30000);
        due("14 nothing goes on", x.put(0, 0, 2, 0), 0);
        x.pay(0, 1);
        due("14 the next goes on", x.put(0, 1, 2, 0), 10000);
        x.move(0, 1);
        x.move(1, 1);
        due("14 5 have run, too little by 5: 50000 * 20002 / 50005 and the cuts",
            x.put(0, 0, 0, 0) + x.put(0, 0, 0, 1), 20000);
        due("14 50000 * 30003 / 50005", x.put(0, 0, 1, 0) + x.put(0, 0, 1, 1), 30000);
        due("14 the rest by the next, in full", x.put(0, 1, 0, 0) + x.put(0, 1, 1, 0), 5);
        due("14 what is over goes on", x.put(0, 1, 2, 0), 9995);
        due("15 paid", x.paid(0, 0), 1);
    }

    private static void sharesBehindAWord() {
        PaidDebts x = new PaidDebts();
        x.debt(1, 0, 0, 0);
        x.debt(2, 0, 0, 0);
        x.debt(1, 0, 0, 0);
        x.debt(9, 1, 0, 0);
        x.pay(0, 2);
        x.word(0, 0, 0);
        rule(x, 0, "c p");
        due("14 by the word in full", x.put(0, 0, 0, 0), 10000);
        due("14 of what is over, two by three", x.put(0, 0, 1, 0), 6667);
        due("14 of what is over, one by three", x.put(0, 0, 2, 0), 3333);
        due("14 none to one that is not yet", x.put(0, 0, 3, 0), 0);
        x.set(1, 3, 1);
        x.move(0, 9);
        rule(x, 0, "c x p");
        due("14 none to a dead one", x.put(0, 0, 1, 0), 0);
        due("14 one by ten", x.put(0, 0, 2, 0), 1000);
        due("14 nine by ten", x.put(0, 0, 3, 0), 9000);
    }

    private static void sharesToSumAndRun() {
        PaidDebts x = new PaidDebts();
        x.debt(10, 0, 0, 10);
        x.debt(10, 0, 0, 20);
        x.pay(100, 2);
        rule(x, 0, "p");
        due("14 20000 * 110000 / 230000, and 1: run", x.put(0, 0, 0, 1), 9566);
        due("14 all of it to what has run", x.put(0, 0, 0, 0), 0);
        due("14 20000 * 120000 / 230000: run", x.put(0, 0, 1, 1), 10434);
        rule(x, 0, "p s");
        due("14 by s to the sum", x.put(0, 0, 0, 0), 9566);
        due("14 by s nothing to what has run", x.put(0, 0, 0, 1), 0);
        x.pay(100, 9);
        rule(x, 0, "p");
        due("14 more than has run: run", x.put(0, 1, 0, 1), 434);
        due("14 more than has run: sum", x.put(0, 1, 0, 0), 90000L * (110000 - 9566) / 210000 + 1 - 434);
    }

    private static void sharesOfLikeOnes() {
        PaidDebts x = new PaidDebts();
        x.debt(4, 0, 0, 0);
        x.debt(6, 0, 0, 0);
        x.debt(4, 0, 0, 0);
        x.debt(6, 0, 0, 0);
        x.pay(0, 6);
        rule(x, 0, "l p");
        due("14 the greater ones first, the second of them", x.put(0, 0, 3, 0), 30000);
        due("14 none to the lesser", x.put(0, 0, 0, 0), 0);
        x.pay(0, 6);
        due("14 now the lesser are greater", x.put(0, 1, 2, 0), 30000);
        due("14 none to the others", x.put(0, 1, 1, 0), 0);
        rule(x, 0, "l");
        due("14 without p the first of the greater", x.put(0, 0, 1, 0), 60000);
        due("14 then the second", x.put(0, 1, 3, 0), 60000);
    }

    private static void spare() {
        PaidDebts x = new PaidDebts();
        x.debt(1, 0, 0, 1);
        x.pay(1, 2);
        due("14 all but what is left is spare", x.put(0, 0, -1, 0), 9999);
        due("14 whatever what is", x.put(0, 0, -1, 1), 9999);
        due("14 to what had run", x.put(0, 0, 0, 1), 1);
        due("14 to the sum", x.put(0, 0, 0, 0), 10000);
        rule(x, 0, "p");
        due("14 by parts too", x.put(0, 0, -1, 0), 9999);
        due("24 spare of a plan", x.plan(0, 1, 0, 1, 1), 0);
        x.move(0, 299);
        due("24 spare of a plan, to the part", x.plan(0, 3, 7, 1, 1), 30000 - 10007);
    }

    private static void wholesAreCut() {
        PaidDebts x = new PaidDebts();
        x.debt(1, 0, 0, 99);
        filled(x, 0, 0, 0, 1, 2);
        due("27 10000 is 1", x.judge(0, 0, 0, 0, 1), -4);
        due("27 19999 is 1", x.judge(0, 101, 0, 0, 1), -4);
        due("27 and not 2", x.judge(0, 101, 0, 0, 2), 0);
        due("27 20098 is 2", x.judge(0, 102, 0, 0, 2), -4);
        due("27 and not 1", x.judge(0, 102, 0, 0, 1), 0);
        x.pay(101, 1);
        due("27 9999 is 0", x.judge(0, 101, 0, 0, 0), -4);
        x.debt(2, 0, 0, 0);
        filled(x, 0, 0, 1, 1, 2);
        due("27 the second of two", x.judge(0, 0, 0, 0, 0), 1);
        due("27 none of two", x.judge(0, 0, 0, 0, 1), -4);
        x = new PaidDebts();
        x.debt(2, 0, 0, 50);
        x.pay(50, 1);
        due("12 of the sum", x.left(0, 0, 117, 0), 15000);
        due("12 of what has run", x.left(0, 0, 117, 1), 5025);
        filled(x, 0, 0, 2);
        due("27 both together are cut, not each", x.judge(0, 117, 0, 0, 0), -4);
        due("27 the day ahead it is 19950", x.judge(0, 116, 0, 0, 0), 0);
    }

    /** A debt of so many wholes, told by an item of a sheet of a lane that was written as v. */
    private static int told(int whole, int lane, int v) {
        PaidDebts x = new PaidDebts();
        x.debt(whole, 0, 0, 0);
        filled(x, 1, lane, v);
        return x.judge(0, 0, 1, lane, 0);
    }

    private static void bytes() {
        due("32 127 fits", told(127, 0, 127), -4);
        due("32 128 does not", told(128, 0, 128), 0);
        due("32 of 256 + 127 the lowest bits", told(127, 0, 256 + 127), -4);
        due("32 of 127 - 256 too", told(127, 0, 127 - 256), -4);
        due("32 of the greatest number", told(1, 0, Integer.MAX_VALUE), 0);
        due("32 of 65537", told(1, 0, 65537), -4);
        due("32 255 is below 0", told(255, 0, 255), 0);
        due("32 of the least number nothing", told(1, 0, Integer.MIN_VALUE + 1), -4);
    }

    private static void shorts() {
        due("32 9999 fits", told(9999, 1, 9999), -4);
        due("32 of 65536 + 9999 the lowest bits", told(9999, 1, 65536 + 9999), -4);
        due("32 of 9999 - 65536 too", told(9999, 1, 9999 - 65536), -4);
        due("32 255 fits", told(255, 1, 255), -4);
        due("32 256 + 1 is no 1", told(1, 1, 257), 0);
        due("32 of the least number the lowest bit", told(1, 1, Integer.MIN_VALUE + 1), -4);
        PaidDebts x = new PaidDebts();
        x.debt(9999, 0, 0, 99);
        x.set(0, 0, 1);
        int day = 0;
        while (x.left(0, 0, day, 2) / 10000 < 32768) {
            day++;
        }
        int wholes = (int) (x.left(0, 0, day, 2) / 10000);
        filled(x, 0, 1, wholes);
        due("32 " + wholes + " does not fit", x.judge(0, day, 0, 1, 0), 0);
        filled(x, 0, 2, wholes);
        due("32 it does among ints", x.judge(0, day, 0, 2, 0), -4);
    }

    private static void ints() {
        due("32 all bits", told(9999, 2, 9999), -4);
        due("32 all bits: 65536 more", told(9999, 2, 65536 + 9999), 0);
        due("32 all bits: 256 more", told(1, 2, 257), 0);
        due("32 all bits: the least number", told(1, 2, Integer.MIN_VALUE + 1), 0);
    }

    private static void bitsInPayments() {
        int[] more = {256, 65536};
        for (int lane = 0; lane < 2; lane++) {
            PaidDebts x = new PaidDebts();
            filled(x, lane, lane, more[lane] + 100, 3 - more[lane], more[lane] / 2, 1, 1, more[lane] - 1, 1, more[lane]);
            due("32 the lowest bits are a payment", x.pays(lane, lane, 0, 1), 1);
            due("32 its day", x.move(0, 0), 100);
            due("32 its wholes", x.put(0, 0, -1, 0), 30000);
            due("32 a day below 0", x.pays(lane, lane, 2, 1), -2);
            due("32 wholes below 0", x.pays(lane, lane, 4, 1), -2);
            due("32 no wholes", x.pays(lane, lane, 6, 1), -2);
        }
        PaidDebts x = new PaidDebts();
        filled(x, 2, 2, 256, 65536 + 3, 65536 + 1, 3);
        due("32 ints keep their bits: the wholes are too many", x.pays(2, 2, 0, 1), -2);
        due("32 ints keep their bits: the day is too late", x.pays(2, 2, 2, 1), -2);
        x.item(2, 2, 1, 9999);
        due("32 as told then", x.pays(2, 2, 0, 1), 1);
        due("32 its day is above a byte's", x.move(0, 0), 256);
    }
}
