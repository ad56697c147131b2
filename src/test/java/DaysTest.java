/** The first day and the last one, since and the day ahead of it, the day that is just time behind and the next. */
public final class DaysTest extends Checks {
    public static void main(String[] args) {
        since();
        sinceOfWords();
        sinceOnTheLastDay();
        orderOfADay();
        paidOnTheLastDay();
        paidFirst();
        timeBehindDue();
        timeBehindAPayment();
        leastAndGreatestTime();
        openOnlyIsDead();
        wakes();
        wakesOnTheLastDay();
        free();
        freeOnTheLastDay();
        rank();
        choices();
        hangs();
        plan();
        planAmongPayments();
        parts();
        gap();
        end("all days are as due");
    }

    private static void since() {
        PaidDebts x = new PaidDebts();
        x.debt(8, 10, 3, 50);
        x.set(0, 3, 1);
        x.set(0, 1, 4);
        for (int what = 0; what < 3; what++) {
            due("12 nothing the day ahead, " + what, x.left(0, 0, 9, what), 0);
            due("12 nothing on day 0, " + what, x.left(0, 0, 0, what), 0);
        }
        due("12 the sum on since", x.left(0, 0, 10, 0), 80000);
        due("12 nothing has run on since", x.left(0, 0, 10, 1), 0);
        due("12 a day's run the day behind", x.left(0, 0, 11, 1), 400);
        due("12 both the day behind", x.left(0, 0, 11, 2), 80400);
        due("13 nothing is owed the day ahead", x.owed(0, 9), 0);
        due("13 owed on since", x.owed(0, 10), 80000);
        due("16 not open the day ahead", x.dead(0, 0, 9), 0);
        due("16 dead on since, long behind due", x.dead(0, 0, 10), 1);
        due("19 not open the day ahead", x.rank(0, 9, 0), -4);
        due("19 open on since", x.rank(0, 10, 0), 0);
        filled(x, 0, 0, 0, 8);
        due("27 0 is told the day ahead", x.judge(0, 9, 0, 0, 0), -4);
        due("27 0 is not told on since", x.judge(0, 10, 0, 0, 0), 0);
        due("27 8 is told on since", x.judge(0, 10, 0, 0, 1), -4);
        x.pay(9, 8);
        due("14 the day ahead all is spare", x.put(0, 0, -1, 0), 80000);
        due("14 nothing is put to it", x.put(0, 0, 0, 0), 0);
        due("15 not paid by it", x.paid(0, 0), -4);
        due("18 not free by it", x.free(0, 4), -4);
        x.move(0, 10);
        due("14 on since nothing is spare", x.put(0, 0, -1, 0), 0);
        due("14 all is put to it", x.put(0, 0, 0, 0), 80000);
        due("15 paid on since", x.paid(0, 0), 10);
        due("17 woken on since", x.wakes(0, 0), 10);
        due("18 free from since on", x.free(0, 4), 10);
        due("12 nothing runs on a paid one", x.left(0, 0, 299, 2), 0);
    }

    private static void sinceOfWords() {
        PaidDebts x = new PaidDebts();
        x.debt(8, 0, 0, 0);
        x.debt(8, 10, 0, 99);
        x.pay(9, 1);
        rule(x, 0, "c");
        rule(x, 1, "t h");
        due("20 the day ahead no word counts", x.best(0, 1, 50, 0), -1);
        due("22 the day ahead no answer counts", x.answer(1, 0, 50), -1);
        x.move(0, 10);
        due("20 on since a word counts", x.best(0, 1, 50, 0), 1);
        due("22 on since an answer counts", x.answer(1, 0, 50), 0);
    }

    private static void sinceOnTheLastDay() {
        PaidDebts x = new PaidDebts();
        x.debt(8, 299, 299, 99);
        x.set(0, 3, 1);
        x.set(0, 1, 1);
        due("12 the day ahead", x.left(0, 0, 298, 2), 0);
        due("12 the last day", x.left(0, 0, 299, 2), 80000);
        due("16 not out of time", x.dead(0, 0, 299), 0);
        due("18 never", x.free(0, 1), -4);
        x.pay(299, 8);
        due("15 on the last day", x.paid(0, 0), 299);
        due("18 from the last day on", x.free(0, 1), 299);
        due("12 nothing is left", x.left(0, 0, 299, 2), 0);
        x.set(0, 5, 297);
        due("16 two days behind due, ahead of the payment", x.dead(0, 0, 299), 1);
        due("17 woken on the last day", x.wakes(0, 0), 299);
        x.set(0, 5, 298);
        due("16 one day behind due", x.dead(0, 0, 299), 0);
        due("17 not dead, so not woken", x.wakes(0, 0), -4);
    }

    private static void orderOfADay() {
        PaidDebts x = new PaidDebts();
        x.debt(3, 0, 0, 50);
        x.pay(10, 2);
        x.pay(10, 2);
        due("14 behind what runs on that day: run", x.put(0, 0, 0, 1), 1500);
        due("14 the first of the day: sum", x.put(0, 0, 0, 0), 18500);
        due("14 the second of the day: run", x.put(0, 1, 0, 1), 0);
        due("14 the second of the day: sum", x.put(0, 1, 0, 0), 11500);
        due("14 the second of the day: spare", x.put(0, 1, -1, 0), 8500);
        x.move(1, 9);
        due("14 the higher number a day ahead: run", x.put(0, 1, 0, 1), 1350);
        due("14 the higher number a day ahead: sum", x.put(0, 1, 0, 0), 18650);
        due("12 by what is left then", x.left(0, 0, 9, 0), 11350);
        due("14 a day later it has run by that", x.put(0, 0, 0, 1), 56);
        x.move(1, 11);
        x.move(0, 11);
        due("14 moved to one day: the lower number first", x.put(0, 0, -1, 0), 0);
        due("14 moved to one day: then the other", x.put(0, 1, -1, 0), 40000 - 31650);
        x.move(0, 0);
        due("14 on day 0 nothing has run", x.put(0, 0, 0, 1), 0);
        due("12 on day 0 behind the payment", x.left(0, 0, 0, 2), 10000);
        due("12 on day 1 by what was left", x.left(0, 0, 1, 1), 50);
    }

    private static void paidOnTheLastDay() {
        PaidDebts x = new PaidDebts();
        x.debt(2, 0, 0, 0);
        x.pay(299, 1);
        due("15 half of it on the last day", x.paid(0, 0), -4);
        due("12 half is left", x.left(0, 0, 299, 2), 10000);
        x.pay(299, 1);
        due("15 the rest on the last day", x.paid(0, 0), 299);
        due("12 nothing is left", x.left(0, 0, 299, 2), 0);
        due("12 all was left the day ahead", x.left(0, 0, 298, 2), 20000);
        x.set(0, 4, 1);
        due("15 what has run is left", x.paid(0, 0), -4);
        due("12 it is", x.left(0, 0, 299, 2), 299 * 2);
    }

    private static void paidFirst() {
        PaidDebts x = new PaidDebts();
        x.debt(2, 0, 0, 0);
        x.pay(0, 2);
        due("15 on day 0", x.paid(0, 0), 0);
        x.pay(5, 2);
        due("15 a later payment changes nothing", x.paid(0, 0), 0);
        x.move(0, 6);
        due("15 the earlier of the two", x.paid(0, 0), 5);
        due("14 the later is spare", x.put(0, 0, -1, 0), 20000);
    }

    private static void timeBehindDue() {
        PaidDebts x = new PaidDebts();
        x.debt(5, 0, 20, 0);
        x.set(0, 3, 10);
        due("16 on due", x.dead(0, 0, 20), 0);
        due("16 just time behind due", x.dead(0, 0, 30), 0);
        due("16 the day behind that", x.dead(0, 0, 31), 1);
        due("16 from then on", x.dead(0, 0, 299), 1);
        x.pay(15, 1);
        due("16 a payment ahead of due does not count: just time", x.dead(0, 0, 30), 0);
        due("16 a payment ahead of due does not count: behind", x.dead(0, 0, 31), 1);
        x.move(0, 20);
        due("16 a payment on due: just time", x.dead(0, 0, 30), 0);
        due("16 a payment on due: behind", x.dead(0, 0, 31), 1);
        x.set(0, 5, 40);
        due("16 due is set later: just time", x.dead(0, 0, 50), 0);
        due("16 due is set later: behind", x.dead(0, 0, 51), 1);
    }

    private static void timeBehindAPayment() {
        PaidDebts x = new PaidDebts();
        x.debt(5, 0, 20, 0);
        x.set(0, 3, 10);
        x.pay(30, 1);
        due("16 just time behind a payment", x.dead(0, 0, 40), 0);
        due("16 the day behind that", x.dead(0, 0, 41), 1);
        x.pay(25, 1);
        due("16 the latest counts: just time", x.dead(0, 0, 40), 0);
        due("16 the latest counts: behind", x.dead(0, 0, 41), 1);
        x.pay(41, 1);
        due("16 ahead of the day's payment", x.dead(0, 0, 41), 1);
        due("16 the day behind it is awake", x.dead(0, 0, 42), 0);
        due("16 just time behind it", x.dead(0, 0, 51), 0);
        due("16 dead again", x.dead(0, 0, 52), 1);
        rule(x, 1, "x");
        due("16 by x nothing is put: dead still", x.dead(1, 0, 42), 1);
        due("16 by x the day ahead", x.dead(1, 0, 40), 0);
        x.pay(41, 9);
        due("16 paid ones are not dead", x.dead(0, 0, 299), 0);
    }

    private static void leastAndGreatestTime() {
        PaidDebts x = new PaidDebts();
        x.debt(5, 0, 0, 0);
        due("16 time 0 is without end", x.dead(0, 0, 299), 0);
        x.set(0, 3, 1);
        due("16 time 1: a day behind due", x.dead(0, 0, 1), 0);
        due("16 time 1: two days", x.dead(0, 0, 2), 1);
        x.set(0, 3, 299);
        due("16 time 299: not by the last day", x.dead(0, 0, 299), 0);
        x.set(0, 3, 298);
        due("16 time 298: on the last day", x.dead(0, 0, 299), 1);
        due("16 time 298: not the day ahead", x.dead(0, 0, 298), 0);
        x.set(0, 5, 1);
        due("16 due a day later", x.dead(0, 0, 299), 0);
        x.set(0, 3, 1);
        x.set(0, 5, 299);
        due("16 due on the last day", x.dead(0, 0, 299), 0);
        x.set(0, 3, 0);
        x.set(0, 5, 0);
        rule(x, 0, "x");
        x.pay(299, 5);
        due("14 without end nothing is passed over", x.put(0, 0, 0, 0), 50000);
        due("17 nor woken", x.wakes(0, 0), -4);
    }

    private static void openOnlyIsDead() {
        PaidDebts x = new PaidDebts();
        x.debt(5, 50, 0, 0);
        x.set(0, 3, 9);
        due("16 ahead of since", x.dead(0, 0, 49), 0);
        due("16 on since", x.dead(0, 0, 50), 1);
        x.pay(60, 5);
        due("16 on the day it is paid", x.dead(0, 0, 60), 1);
        due("16 the day behind that", x.dead(0, 0, 61), 0);
    }

    private static void wakes() {
        PaidDebts x = new PaidDebts();
        x.debt(9, 0, 20, 0);
        x.set(0, 3, 10);
        x.pay(30, 1);
        due("17 just in time", x.wakes(0, 0), -4);
        x.move(0, 31);
        due("17 a day too late", x.wakes(0, 0), 31);
        x.pay(41, 1);
        x.pay(52, 1);
        due("17 the first", x.wakes(0, 0), 31);
        x.move(0, 30);
        due("17 the second that was too late", x.wakes(0, 0), 41);
        x.move(1, 40);
        due("17 the third", x.wakes(0, 0), 52);
        x.move(2, 50);
        due("17 none is", x.wakes(0, 0), -4);
        x.move(2, 51);
        due("17 the third again", x.wakes(0, 0), 51);
        x.debt(9, 0, 299, 0);
        rule(x, 0, "c");
        x.word(2, 0, 1);
        due("17 put to another", x.wakes(0, 0), -4);
        x.pay(51, 1);
        due("17 the next of the day", x.wakes(0, 0), 51);
    }

    private static void wakesOnTheLastDay() {
        PaidDebts x = new PaidDebts();
        x.debt(9, 0, 0, 0);
        x.set(0, 3, 298);
        x.pay(299, 1);
        due("17 on the last day", x.wakes(0, 0), 299);
        x.move(0, 298);
        due("17 not yet dead", x.wakes(0, 0), -4);
        x.set(0, 3, 297);
        due("17 the day ahead of the last", x.wakes(0, 0), 298);
        rule(x, 0, "x");
        due("17 by x nothing is put to it", x.wakes(0, 0), -4);
    }

    private static void free() {
        PaidDebts x = new PaidDebts();
        x.debt(1, 0, 0, 0);
        x.debt(1, 0, 0, 0);
        x.debt(1, 0, 0, 0);
        x.set(0, 1, 0);
        x.set(1, 1, 0);
        x.set(2, 1, 5);
        x.pay(0, 1);
        x.pay(8, 1);
        due("18 of two debts the later", x.free(0, 0), 8);
        due("18 the other pledge", x.free(0, 5), -4);
        x.set(1, 1, -1);
        due("18 on day 0", x.free(0, 0), 0);
        x.set(0, 1, -1);
        due("18 no debt has it", x.free(0, 0), -2);
        for (int pledge = 0; pledge < 6; pledge++) {
            x.set(1, 1, pledge);
            due("18 pledge " + pledge, x.free(0, pledge), pledge == 5 ? -4 : 8);
        }
        x.set(1, 1, 2);
        x.debt(1, 100, 0, 0);
        x.set(3, 1, 2);
        due("18 one that is not yet since counts as left", x.free(0, 2), -4);
        x.pay(20, 1);
        due("18 a payment ahead of since does not free it", x.free(0, 2), -4);
        x.pay(100, 1);
        due("18 on since", x.free(0, 2), 100);
    }

    private static void freeOnTheLastDay() {
        PaidDebts x = new PaidDebts();
        x.debt(2, 0, 0, 0);
        x.set(0, 1, 3);
        x.pay(299, 1);
        due("18 half is left on the last day", x.free(0, 3), -4);
        x.pay(299, 1);
        due("18 from the last day on", x.free(0, 3), 299);
        x.move(0, 298);
        due("18 not from the day ahead on", x.free(0, 3), 299);
        x.move(1, 298);
        due("18 from the day ahead on", x.free(0, 3), 298);
        x.debt(1, 299, 0, 0);
        x.set(1, 1, 3);
        due("18 one that comes on the last day", x.free(0, 3), -4);
    }

    private static void rank() {
        PaidDebts x = new PaidDebts();
        x.debt(3, 0, 20, 0);
        x.debt(5, 7, 20, 0);
        x.set(0, 3, 10);
        rule(x, 0, "x");
        rule(x, 1, "l");
        due("19 the day ahead of since", x.rank(0, 6, 1), -4);
        due("19 on since", x.rank(0, 7, 1), 1);
        due("19 just time behind due", x.rank(0, 30, 0), 0);
        due("19 the day behind that", x.rank(0, 31, 0), 1);
        due("19 without x still", x.rank(1, 31, 1), 0);
        x.pay(25, 3);
        due("19 the day ahead of a payment", x.rank(0, 24, 0), 0);
        due("19 behind the payment of the day", x.rank(0, 25, 0), 1);
        due("19 by what is left behind it", x.rank(1, 25, 0), 0);
        due("19 by what was left ahead of it", x.rank(1, 24, 0), 1);
        due("19 on the last day", x.rank(1, 299, 1), 1);
        due("19 no more on the last day", x.rank(1, 299, 2), -4);
        due("19 on day 0", x.rank(1, 0, 0), 0);
    }

    private static void choices() {
        PaidDebts x = new PaidDebts();
        x.debt(50, 0, 0, 0);
        x.debt(50, 0, 0, 10);
        x.pay(298, 1);
        rule(x, 0, "c");
        rule(x, 1, "t h");
        due("20 on the payment's day a part that has run is as good", x.best(0, 1, 298, 0), -1);
        due("20 run first: the sum is what it was", x.best(0, 1, 299, 0), -1);
        rule(x, 0, "c s");
        due("20 sum first: a day later it shows", x.best(0, 1, 299, 0), 1);
        due("20 on the day itself it does not", x.best(0, 1, 298, 0), -1);
        due("20 the day ahead nothing does", x.best(0, 1, 297, 0), -1);
        due("21 a day later", x.least(0, 1, 299), 990000 + 298 * 500 + 490);
        rule(x, 1, "t h s");
        due("22 a day later it shows", x.answer(1, 0, 299), 0);
        due("22 on the day itself it does not", x.answer(1, 0, 298), -1);
        x.move(0, 299);
        due("20 on the last day nothing shows", x.best(0, 1, 299, 0), -1);
        due("22 on the last day nothing shows", x.answer(1, 0, 299), -1);
    }

    private static void hangs() {
        PaidDebts x = new PaidDebts();
        x.debt(100, 100, 0, 10);
        x.pay(5, 10);
        rule(x, 0, "s");
        due("23 ahead of since it is lost", x.hangs(0, 0, 0, 99, 299, 0), 1000000 + 199 * 1000);
        due("23 on since it counts most", x.hangs(0, 0, 0, 100, 299, 0), 900000 + 199 * 900);
        due("23 one day", x.hangs(0, 0, 100, 100, 299, 1), 900000 + 199 * 900);
        due("23 the last day", x.hangs(0, 0, 299, 299, 299, 1), 900000 + 199 * 1000);
        due("23 all days, most", x.hangs(0, 0, 0, 299, 299, 1), 1000000 + 199 * 1000);
        due("23 from since on, most", x.hangs(0, 0, 100, 299, 299, 1), 900000 + 199 * 1000);
        due("23 the day asked for, least", x.hangs(0, 0, 150, 151, 150, 0), 950000);
        due("23 behind the day asked for, most", x.hangs(0, 0, 150, 151, 150, 1), 1050000);
        due("23 both behind it", x.hangs(0, 0, 151, 299, 150, 0), 1050000);
        due("23 ahead of since nothing is owed", x.hangs(0, 0, 0, 299, 99, 1), 0);
        due("23 on day 0", x.hangs(0, 0, 0, 0, 0, 0), 0);
        due("23 the day is as it was", x.move(0, 5), 5);
        x.pay(150, 100);
        due("23 a payment of the day, by number first", x.hangs(0, 0, 150, 150, 150, 0), 0);
        due("23 with the other it is too much a day ahead", x.hangs(0, 0, 149, 149, 150, 0), 0);
    }

    private static void plan() {
        PaidDebts x = new PaidDebts();
        x.debt(2, 0, 0, 0);
        due("24 on day 0", x.plan(0, 2, 0, 1, 0), 0);
        due("24 two on days 0 and 60", x.plan(0, 1, 0, 60, 0), 60);
        due("24 two on days 238 and 298", x.plan(0, 1, 238, 60, 0), 298);
        due("24 two on days 239 and 299", x.plan(0, 1, 239, 60, 0), 299);
        due("24 spare of that", x.plan(0, 1, 239, 60, 1), 0);
        due("24 two on days 240 and 300", x.plan(0, 1, 240, 60, 0), -4);
        due("24 no spare then", x.plan(0, 1, 240, 60, 1), -4);
        due("24 two on days 298 and 299", x.plan(0, 1, 298, 1, 0), 299);
        due("24 two on days 299 and 300", x.plan(0, 1, 299, 1, 0), -4);
        due("24 one on the last day", x.plan(0, 3, 299, 1, 0), 299);
        due("24 its spare", x.plan(0, 3, 299, 1, 1), 10000);
        x.set(0, 4, 1);
        due("24 what has run on the last day is left", x.plan(0, 2, 299, 1, 0), -4);
        x = new PaidDebts();
        x.debt(1, 50, 0, 0);
        due("24 ahead of since nothing is owed", x.plan(0, 1, 49, 1, 0), 49);
        due("24 all of it is spare", x.plan(0, 1, 49, 1, 1), 10000);
        due("24 on since it is", x.plan(0, 1, 50, 1, 1), 0);
        x.debt(1, 0, 0, 0);
        due("24 the first is paid ahead of since", x.plan(0, 1, 49, 1, 0), 49);
        due("24 nothing is spare of it", x.plan(0, 1, 49, 1, 1), 0);
    }

    private static void planAmongPayments() {
        PaidDebts x = new PaidDebts();
        x.debt(5, 0, 0, 0);
        x.debt(5, 0, 0, 0);
        x.pay(10, 5);
        rule(x, 0, "c");
        x.word(0, 0, 1);
        due("24 behind the payment of the day", x.plan(0, 5, 10, 5, 0), 10);
        due("24 ahead of it one more is needed", x.plan(0, 5, 9, 5, 0), 14);
        due("24 of which all is spare", x.plan(0, 5, 9, 5, 1), 50000);
        due("24 a payment ends no plan", x.plan(0, 9, 9, 9, 0), 18);
        due("24 payments behind the plan's last do not count", x.plan(0, 10, 9, 1, 0), 9);
        due("8 nothing is written", x.count(1), 1);
        due("13 nothing is put", x.owed(0, 299), 50000);
        x.set(0, 3, 20);
        x.set(1, 3, 20);
        rule(x, 1, "x");
        due("24 by x in time", x.plan(1, 1, 20, 20, 0), 100);
        due("24 by x out of time", x.plan(1, 1, 31, 20, 0), -4);
    }

    private static void parts() {
        PaidDebts x = new PaidDebts();
        x.debt(10, 0, 0, 0);
        x.debt(10, 0, 0, 1);
        rule(x, 1, "h");
        due("25 without payments never", x.parts(), -4);
        x.pay(0, 1);
        due("25 on day 0", x.parts(), 0);
        x.move(0, 299);
        due("25 on the last day", x.parts(), 299);
        due("25 not the day ahead", x.left(0, 0, 298, 2) - x.left(1, 0, 298, 2), 0);
        x.pay(40, 1);
        due("25 the first day of two", x.parts(), 40);
        x.set(1, 4, 0);
        due("25 like rates, never", x.parts(), -4);
        x.set(0, 3, 5);
        rule(x, 1, "x");
        due("25 by x, a dead one", x.parts(), 40);
        x.move(1, 5);
        due("25 by x, in time: the last day", x.parts(), 299);
        x.move(0, 10);
        due("25 by x, both in time", x.parts(), -4);
        x = new PaidDebts();
        x.debt(10, 299, 0, 0);
        x.debt(11, 299, 0, 0);
        x.pay(298, 1);
        rule(x, 1, "l");
        due("25 ahead of since all is spare by both", x.parts(), -4);
        x.move(0, 299);
        due("25 on since of the last day", x.parts(), 299);
    }

    private static void gap() {
        PaidDebts x = new PaidDebts();
        x.debt(10, 0, 0, 0);
        x.debt(10, 0, 0, 10);
        x.pay(0, 1);
        rule(x, 1, "h");
        due("26 on day 0 alike in all", x.gap(0), 0);
        due("26 less by law 1", x.gap(1), -10);
        due("26 on the last day", x.gap(299), -2990);
        rule(x, 0, "h");
        due("26 like laws", x.gap(299), 0);
        rule(x, 1, "o");
        due("26 more by law 1", x.gap(299), 2990);
        x = new PaidDebts();
        for (int d = 0; d < 8; d++) {
            x.debt(9999, 0, 0, d == 0 ? 0 : 99);
            x.set(d, 0, 1);
        }
        x.pay(0, 9999);
        rule(x, 1, "h");
        long grown = 99990000;
        for (int day = 1; day < 300; day++) {
            grown += grown * 99 / 10000;
        }
        due("26 as far below 0 as it goes in a book of eight", x.gap(299), 99990000 - grown);
        due("26 which is no refusal", x.gap(300), -1000000000001L);
    }
}
