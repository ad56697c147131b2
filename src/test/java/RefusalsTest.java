/** Where more than one refusal would do, the one that a call names first is its answer; what is refused changes nothing. */
public final class RefusalsTest extends Checks {
    private static final int BAD = -1, NOT = -2, FULL = -3, NONE = -4, NULL = -11, CAST = -12, INDEX = -13, SIZE = -14;

    private interface Maker {
        PaidDebts made();
    }

    private interface Call {
        long on(PaidDebts x);
    }

    public static void main(String[] args) {
        debtAndPay();
        pays();
        tape();
        laws();
        days();
        choices();
        plan();
        judge();
        image();
        sheets();
        end("all refusals come in their order and change nothing");
    }

    private static void refused(String name, Maker maker, Call call, long refusal) {
        PaidDebts x = maker.made();
        due(name, call.on(x), refusal);
        dueText(name + ": what stands", Stand.read(x), Stand.read(maker.made()));
    }

    private static PaidDebts fullOfDebts() {
        PaidDebts x = Stand.made();
        for (int i = 3; i < 8; i++) {
            x.debt(i, i, i, i);
        }
        return x;
    }

    private static PaidDebts fullOfPayments() {
        PaidDebts x = Stand.made();
        for (int i = 3; i < 12; i++) {
            x.pay(i, i);
        }
        return x;
    }

    private static void debtAndPay() {
        refused("2 full", RefusalsTest::fullOfDebts, x -> x.debt(1, 1, 1, 1), FULL);
        refused("2 bad whole ahead of full", RefusalsTest::fullOfDebts, x -> x.debt(0, 1, 1, 1), BAD);
        refused("2 bad since ahead of full", RefusalsTest::fullOfDebts, x -> x.debt(1, 300, 1, 1), BAD);
        refused("2 bad due ahead of full", RefusalsTest::fullOfDebts, x -> x.debt(1, 1, 300, 1), BAD);
        refused("2 bad rate ahead of full", RefusalsTest::fullOfDebts, x -> x.debt(1, 1, 1, 100), BAD);
        refused("4 full", RefusalsTest::fullOfPayments, x -> x.pay(1, 1), FULL);
        refused("4 bad day ahead of full", RefusalsTest::fullOfPayments, x -> x.pay(300, 1), BAD);
        refused("4 bad whole ahead of full", RefusalsTest::fullOfPayments, x -> x.pay(1, 10000), BAD);
        refused("3 a wrong what has no bounds", Stand::made, x -> x.set(0, 6, 0), BAD);
        refused("3 all is wrong", Stand::made, x -> x.set(3, 6, 300), BAD);
        refused("6 all is wrong", Stand::made, x -> x.word(3, 2, 3), BAD - 100);
        refused("7 all is wrong", Stand::made, x -> x.move(3, 300), BAD);
    }

    /** Sheet 0 has pairs that are payments, then two that are none; sheet 1 is missing. */
    private static PaidDebts paired() {
        PaidDebts x = Stand.made();
        filled(x, 0, 2, 1, 1, 2, 2, 300, 1, 5, 0);
        x.drop(1);
        return x;
    }

    private static PaidDebts pairedAndFull() {
        PaidDebts x = paired();
        for (int i = 3; i < 11; i++) {
            x.pay(i, i);
        }
        return x;
    }

    private static void pays() {
        refused("5 bad sheet ahead of null", RefusalsTest::paired, x -> x.pays(4, 2, 0, 1), BAD);
        refused("5 bad lane ahead of null", RefusalsTest::paired, x -> x.pays(1, 3, 0, 1), BAD);
        refused("5 bad n ahead of null", RefusalsTest::paired, x -> x.pays(1, 2, 0, 13), BAD);
        refused("5 bad n below ahead of null", RefusalsTest::paired, x -> x.pays(1, 2, 0, -1), BAD);
        refused("5 bad lane ahead of cast", RefusalsTest::paired, x -> x.pays(0, -1, 0, 1), BAD);
        refused("5 bad n ahead of cast", RefusalsTest::paired, x -> x.pays(0, 1, 0, 13), BAD);
        refused("5 bad n ahead of index", RefusalsTest::paired, x -> x.pays(0, 2, -1, 13), BAD);
        refused("5 bad n ahead of not", RefusalsTest::paired, x -> x.pays(0, 2, 4, -1), BAD);
        refused("5 bad n ahead of full", RefusalsTest::pairedAndFull, x -> x.pays(0, 2, 0, 13), BAD);
        refused("5 null ahead of index", RefusalsTest::paired, x -> x.pays(1, 2, -1, 1), NULL);
        refused("5 null of no payments", RefusalsTest::paired, x -> x.pays(1, 2, 0, 0), NULL);
        refused("5 null ahead of full", RefusalsTest::pairedAndFull, x -> x.pays(1, 2, 0, 2), NULL);
        refused("5 cast ahead of index", RefusalsTest::paired, x -> x.pays(0, 1, 9, 1), CAST);
        refused("5 cast ahead of not", RefusalsTest::paired, x -> x.pays(0, 1, 4, 1), CAST);
        refused("5 cast of no payments", RefusalsTest::paired, x -> x.pays(0, 0, 0, 0), CAST);
        refused("5 cast ahead of full", RefusalsTest::pairedAndFull, x -> x.pays(0, 0, 0, 2), CAST);
        refused("5 index ahead of not", RefusalsTest::paired, x -> x.pays(0, 2, 4, 3), INDEX);
        refused("5 index of the last half of a pair", RefusalsTest::paired, x -> x.pays(0, 2, 3, 3), INDEX);
        refused("5 index ahead of full", RefusalsTest::pairedAndFull, x -> x.pays(0, 2, 0, 5), INDEX);
        refused("5 not: the last of three", RefusalsTest::paired, x -> x.pays(0, 2, 0, 3), NOT);
        refused("5 not: the wholes of the last of four", RefusalsTest::paired, x -> x.pays(0, 2, 6, 1), NOT);
        refused("5 not ahead of full", RefusalsTest::pairedAndFull, x -> x.pays(0, 2, 0, 3), NOT);
        refused("5 full: room for one of two", RefusalsTest::pairedAndFull, x -> x.pays(0, 2, 0, 2), FULL);
        due("5 room for one", pairedAndFull().pays(0, 2, 0, 1), 1);
    }

    private static PaidDebts fullTape() {
        PaidDebts x = Stand.made();
        for (int i = 0; i < 4; i++) {
            x.type(0x2020202020202020L, 8);
        }
        x.type(0x202020206fL, 5);
        return x;
    }

    private static void tape() {
        refused("9 full", RefusalsTest::fullTape, x -> x.type('l', 1), FULL);
        refused("9 bad n ahead of full", RefusalsTest::fullTape, x -> x.type('l', 0), BAD);
        refused("9 bad n above ahead of full", RefusalsTest::fullTape, x -> x.type('l', 9), BAD);
        refused("9 a bad byte ahead of full", RefusalsTest::fullTape, x -> x.type(127, 1), BAD);
        refused("9 bad n ahead of its bytes", Stand::made, x -> x.type(0, 9), BAD);
        refused("9 the last byte is bad", Stand::made, x -> x.type(0x6c6f1fL, 3), BAD);
        refused("9 the first byte is bad", Stand::made, x -> x.type(0x7f6c6fL, 3), BAD);
    }

    private static PaidDebts faultyTape() {
        PaidDebts x = Stand.made();
        typed(x, "?");
        return x;
    }

    private static void laws() {
        refused("10 bad ahead of a fault", RefusalsTest::faultyTape, x -> x.law(2), BAD);
        refused("10 bad below ahead of a fault", RefusalsTest::faultyTape, x -> x.law(-1), BAD);
        PaidDebts x = faultyTape();
        x.law(2);
        due("10 the tape stays when refused", x.law(0), -23);
        due("10 the law stays with a fault", x.letter(0, 0), 'c');
        due("10 no letter comes with a fault", x.letter(0, 1), NONE);
        due("10 the other law stays with a fault", x.letter(1, 2), 'h');
        refused("11 bad law ahead of none", Stand::made, y -> y.letter(2, 9), BAD);
        refused("11 bad i ahead of none", PaidDebts::new, y -> y.letter(0, -1), BAD);
    }

    private static void days() {
        refused("15 bad ahead of none", Stand::made, x -> x.paid(2, 0), BAD);
        refused("17 bad ahead of none", Stand::made, x -> x.wakes(2, 1), BAD);
        refused("18 bad law ahead of not", Stand::made, x -> x.free(2, 3), BAD);
        refused("18 bad law ahead of none", Stand::made, x -> x.free(-1, 5), BAD);
        refused("18 bad pledge ahead of not", Stand::made, x -> x.free(0, 6), BAD);
        refused("18 no pledge is no number of one", Stand::made, x -> x.free(0, -1), BAD);
        refused("18 not ahead of none", Stand::made, x -> x.free(0, 3), NOT);
        refused("19 bad law ahead of none", Stand::made, x -> x.rank(2, 0, 9), BAD);
        refused("19 bad day ahead of none", Stand::made, x -> x.rank(0, 300, 9), BAD);
        refused("19 bad i ahead of none", PaidDebts::new, x -> x.rank(0, 0, -1), BAD);
    }

    private static void choices() {
        refused("20 bad law ahead of not", PaidDebts::new, x -> x.best(2, 1, 0, 0), BAD - 100);
        refused("20 bad n ahead of not", PaidDebts::new, x -> x.best(0, 4, 0, 0), BAD - 100);
        refused("20 bad day ahead of not", PaidDebts::new, x -> x.best(0, 1, 300, 0), BAD - 100);
        refused("20 bad i ahead of not", PaidDebts::new, x -> x.best(0, 1, 0, 1), BAD - 100);
        refused("20 bad i below ahead of not", PaidDebts::new, x -> x.best(0, 1, 0, -1), BAD - 100);
        refused("20 not", PaidDebts::new, x -> x.best(0, 3, 0, 2), NOT - 100);
        refused("21 bad law ahead of not", PaidDebts::new, x -> x.least(2, 1, 0), BAD);
        refused("21 bad n ahead of not", PaidDebts::new, x -> x.least(0, 4, 0), BAD);
        refused("21 bad day ahead of not", PaidDebts::new, x -> x.least(0, 1, 300), BAD);
        refused("21 not", PaidDebts::new, x -> x.least(0, 3, 0), NOT);
        for (int n = 1; n <= 3; n++) {
            PaidDebts x = new PaidDebts();
            for (int p = 1; p < n; p++) {
                x.pay(p, 1);
            }
            due("20 one payment is lacking of " + n, x.best(0, n, 9, 0), NOT - 100);
            due("21 one payment is lacking of " + n, x.least(0, n, 9), NOT);
            x.pay(9, 1);
            due("20 no payment is lacking of " + n, x.best(0, n, 9, 0), -1);
            due("21 no payment is lacking of " + n, x.least(0, n, 9), 0);
        }
        refused("22 all is wrong", Stand::made, x -> x.answer(2, 3, 300), BAD - 100);
        refused("23 all is wrong", Stand::made, x -> x.hangs(2, 3, 300, -1, 300, 2), BAD);
        refused("23 from above to", Stand::made, x -> x.hangs(0, 0, 31, 30, 100, 0), BAD);
    }

    private static void plan() {
        refused("24 none", Stand::made, x -> x.plan(0, 1, 0, 60, 0), NONE);
        refused("24 bad law ahead of none", Stand::made, x -> x.plan(2, 1, 0, 60, 0), BAD);
        refused("24 bad whole ahead of none", Stand::made, x -> x.plan(0, 0, 0, 60, 0), BAD);
        refused("24 bad day ahead of none", Stand::made, x -> x.plan(0, 1, 300, 60, 0), BAD);
        refused("24 bad each ahead of none", Stand::made, x -> x.plan(0, 1, 0, 61, 0), BAD);
        refused("24 bad what ahead of none", Stand::made, x -> x.plan(0, 1, 0, 60, 2), BAD);
    }

    /** Sheet 0 has three items, the first of them wrong; sheet 1 is missing. */
    private static PaidDebts judged() {
        PaidDebts x = Stand.made();
        filled(x, 0, 1, 99, 0, 202);
        x.drop(1);
        return x;
    }

    private static void judge() {
        refused("27 bad law ahead of null", RefusalsTest::judged, x -> x.judge(2, 20, 1, 1, 0), BAD);
        refused("27 bad day ahead of null", RefusalsTest::judged, x -> x.judge(0, 300, 1, 1, 0), BAD);
        refused("27 bad lane ahead of null", RefusalsTest::judged, x -> x.judge(0, 20, 1, 3, 0), BAD);
        refused("27 bad law ahead of cast", RefusalsTest::judged, x -> x.judge(-1, 20, 0, 2, 0), BAD);
        refused("27 bad day ahead of cast", RefusalsTest::judged, x -> x.judge(0, -1, 0, 2, 0), BAD);
        refused("27 bad lane ahead of cast", RefusalsTest::judged, x -> x.judge(0, 20, 0, -1, 0), BAD);
        refused("27 bad day ahead of index", RefusalsTest::judged, x -> x.judge(0, 300, 0, 1, 1), BAD);
        refused("27 bad sheet ahead of index", RefusalsTest::judged, x -> x.judge(0, 20, -1, 1, -1), BAD);
        refused("27 null ahead of index", RefusalsTest::judged, x -> x.judge(0, 20, 1, 1, -1), NULL);
        refused("27 cast ahead of index", RefusalsTest::judged, x -> x.judge(0, 20, 0, 2, 1), CAST);
        refused("27 index ahead of a debt that is not so", RefusalsTest::judged, x -> x.judge(0, 20, 0, 1, 1), INDEX);
        refused("27 index below 0", RefusalsTest::judged, x -> x.judge(0, 20, 0, 1, -1), INDEX);
        refused("27 a debt that is not so", RefusalsTest::judged, x -> x.judge(0, 20, 0, 1, 0), 0);
    }

    private static void image() {
        PaidDebts x = new PaidDebts();
        x.debt(7, 0, 0, 0);
        x.pay(3, 2);
        due("29 no image", x.restore(), NONE);
        due("29 the debts stay", x.count(0), 1);
        due("29 the payments stay", x.owed(0, 299), 50000);
    }

    private static void sheets() {
        refused("30 bad sheet ahead of size", Stand::made, x -> x.sheet(4, 0, -1), BAD);
        refused("30 bad lane ahead of size", Stand::made, x -> x.sheet(0, 3, -1), BAD);
        refused("30 size", Stand::made, x -> x.sheet(0, 0, -1), SIZE);
        refused("31 null", RefusalsTest::judged, x -> x.drop(1), NULL);
        refused("31 bad", RefusalsTest::judged, x -> x.drop(4), BAD);
        refused("32 bad lane ahead of null", RefusalsTest::judged, x -> x.item(1, 3, 0, 1), BAD);
        refused("32 bad lane ahead of cast", RefusalsTest::judged, x -> x.item(0, -1, 0, 1), BAD);
        refused("32 bad sheet ahead of index", RefusalsTest::judged, x -> x.item(4, 1, 9, 1), BAD);
        refused("32 null ahead of index", RefusalsTest::judged, x -> x.item(1, 1, -1, 1), NULL);
        refused("32 cast ahead of index", RefusalsTest::judged, x -> x.item(0, 2, 3, 1), CAST);
        refused("32 cast", RefusalsTest::judged, x -> x.item(0, 2, 0, 1), CAST);
        refused("32 index", RefusalsTest::judged, x -> x.item(0, 1, 3, 1), INDEX);
        refused("32 index below 0", RefusalsTest::judged, x -> x.item(0, 1, -1, 1), INDEX);
    }
}
