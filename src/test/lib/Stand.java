/**
 * An object in which there is something of everything, and what can be read out of one.
 *
 * <p>By law 0 ("c"): payment 0 goes by its word to debt 1, which is paid on day 20; payments 1 and 2 go to debt 0.
 * By law 1 ("t s h"): all payments go to debt 2, on which alone something runs (2000 a day at first).
 */
final class Stand {
    private static final int LANES = 3;
    private static final int[] ASKED_DAYS = {0, 4, 5, 9, 10, 60, 299};

    private Stand() {
    }

    static PaidDebts made() {
        PaidDebts x = new PaidDebts();
        x.debt(100, 0, 10, 0);
        x.set(0, 3, 25);
        x.image();
        x.debt(30, 5, 20, 0);
        x.set(1, 1, 0);
        x.debt(200, 10, 30, 10);
        x.set(2, 1, 5);
        x.set(2, 2, 1);
        x.set(2, 3, 15);
        x.pay(20, 30);
        x.word(0, 0, 1);
        x.pay(40, 20);
        x.word(1, 1, 2);
        x.pay(60, 5);
        Checks.rule(x, 0, "c");
        Checks.rule(x, 1, "t s h");
        Checks.typed(x, "d h");
        Checks.filled(x, 0, 2, 0, 100, 0, 202, 7);
        Checks.filled(x, 1, 0, 7, 1, 8, 2);
        Checks.filled(x, 2, 1, 9, 300, 10, 301, 5, 6);
        Checks.filled(x, 3, 2, 0, 100, 0, 202, 7);
        return x;
    }

    /** All that an object holds, as a text. What it held is gone then. It takes fewer calls than an object has left. */
    static String read(PaidDebts x) {
        StringBuilder all = new StringBuilder("book");
        readBook(x, all);
        all.append(" tape ").append(x.type(' ', 1)).append(' ').append(x.law(0));
        readLaw(x, 0, all);
        all.append(" image ").append(x.restore());
        readBook(x, all);
        for (int sheet = 0; sheet < 4; sheet++) {
            all.append(" sheet");
            readSheet(x, sheet, all);
        }
        return all.toString();
    }

    private static void readBook(PaidDebts x, StringBuilder all) {
        for (int what = 0; what < 4; what++) {
            all.append(' ').append(x.count(what));
        }
        int debts = x.count(0);
        for (int debt = 0; debt < debts; debt++) {
            all.append(" debt");
            for (int what = 0; what < 6; what++) {
                int was = x.set(debt, what, 0);
                x.set(debt, what, was);
                all.append(' ').append(was);
            }
            for (int day : ASKED_DAYS) {
                all.append(' ').append(x.left(0, debt, day, 0));
            }
        }
        readPayments(x, all);
        readLaw(x, 0, all);
        readLaw(x, 1, all);
    }

    private static void readLaw(PaidDebts x, int law, StringBuilder all) {
        all.append(" law");
        for (int i = 0; i < 4; i++) {
            all.append(' ').append(x.letter(law, i));
        }
    }

    private static void readPayments(PaidDebts x, StringBuilder all) {
        int debts = x.count(0);
        int payments = x.count(1);
        for (int payment = 0; payment < payments; payment++) {
            all.append(" payment");
            for (int what = 0; what < 2; what++) {
                int was = x.word(payment, what, -1);
                x.word(payment, what, was);
                all.append(' ').append(was);
            }
            int day = x.move(payment, 0);
            x.move(payment, day);
            all.append(' ').append(day).append(' ').append(x.put(0, payment, -1, 0));
            for (int debt = 0; debt < debts; debt++) {
                all.append(' ').append(x.put(0, payment, debt, 0) + x.put(0, payment, debt, 1));
            }
        }
    }

    private static void readSheet(PaidDebts x, int sheet, StringBuilder all) {
        for (int lane = 0; lane < LANES; lane++) {
            // No item is as far as this one: the answer tells only whether the lane is the sheet's.
            int refusal = x.item(sheet, lane, -1, 0);
            all.append(' ').append(refusal);
            if (refusal == PaidDebts.INDEX) {
                all.append(" row ").append(x.pays(sheet, lane, 0, 2));
                readPayments(x, all);
                x.restore();
                all.append(" more ").append(x.pays(sheet, lane, 4, 1));
                readPayments(x, all);
                x.restore();
            }
        }
        all.append(' ').append(x.drop(sheet));
    }
}
