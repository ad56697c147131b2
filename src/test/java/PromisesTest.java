/** For each promise of the document: ordinary calls, the edges that it names, wrong ones; answers worked out by hand. */
public final class PromisesTest extends Checks {
    public static void main(String[] args) {
        newObject();
        debt();
        set();
        pay();
        pays();
        word();
        move();
        count();
        type();
        law();
        letter();
        left();
        leftByWordsAndAnswers();
        leftByKeys();
        leftByParts();
        singleParts();
        owed();
        put();
        paid();
        dead();
        wakes();
        free();
        rank();
        best();
        least();
        answer();
        hangs();
        plan();
        parts();
        gap();
        judge();
        imageAndRestore();
        sheet();
        drop();
        item();
        end("all promises are kept");
    }

    private static void newObject() {
        PaidDebts x = new PaidDebts();
        due("1 debts", x.count(0), 0);
        due("1 payments", x.count(1), 0);
        due("1 owed", x.owed(0, 299), 0);
        due("1 empty law", x.letter(1, 0), -4);
        due("1 no image", x.restore(), -4);
        due("1 no sheet", x.drop(3), -11);
        due("1 empty tape", x.law(0), -20);
    }

    private static void debt() {
        PaidDebts x = new PaidDebts();
        int[][] bad = {{0, 0, 0, 0}, {10000, 0, 0, 0}, {1, -1, 0, 0}, {1, 300, 0, 0}, {1, 0, -1, 0}, {1, 0, 300, 0},
            {1, 0, 0, -1}, {1, 0, 0, 100}, {Integer.MIN_VALUE, 0, 0, 0}, {1, Integer.MAX_VALUE, 0, 0}};
        for (int[] b : bad) {
            due("2 bad", x.debt(b[0], b[1], b[2], b[3]), -1);
        }
        due("2 least", x.debt(1, 0, 0, 0), 0);
        due("2 most", x.debt(9999, 299, 299, 99), 1);
        for (int i = 2; i < 8; i++) {
            due("2 number", x.debt(5, 5, 5, 5), i);
        }
        due("2 full", x.debt(5, 5, 5, 5), -3);
        due("2 bad ahead of full", x.debt(0, 5, 5, 5), -1);
        due("2 nothing more", x.count(0), 8);
        int[] first = {0, -1, 0, 0, 99, 299};
        for (int what = 0; what < 6; what++) {
            due("2 as told " + what, x.set(1, what, 0), first[what]);
        }
    }

    private static void set() {
        PaidDebts x = new PaidDebts();
        due("3 no debt", x.set(0, 0, 0), -1);
        x.debt(10, 2, 7, 9);
        int[] least = {0, -1, 0, 0, 0, 0};
        int[] most = {1, 5, 1, 299, 99, 299};
        int[] was = {0, -1, 0, 0, 9, 7};
        for (int what = 0; what < 6; what++) {
            due("3 above " + what, x.set(0, what, most[what] + 1), -1);
            due("3 below " + what, x.set(0, what, least[what] - 1), -1);
            due("3 was " + what, x.set(0, what, most[what]), was[what]);
            due("3 most " + what, x.set(0, what, least[what]), most[what]);
            due("3 least " + what, x.set(0, what, least[what]), least[what]);
        }
        due("3 what below", x.set(0, -1, 0), -1);
        due("3 what above", x.set(0, 6, 0), -1);
        due("3 debt below", x.set(-1, 0, 0), -1);
        due("3 debt above", x.set(1, 0, 0), -1);
        due("3 what far", x.set(0, Integer.MAX_VALUE, 0), -1);
        x.set(0, 4, 20);
        due("3 rate counts", x.left(0, 0, 5, 1), 3 * 200);
    }

    private static void pay() {
        PaidDebts x = new PaidDebts();
        due("4 day below", x.pay(-1, 1), -1);
        due("4 day above", x.pay(300, 1), -1);
        due("4 nothing", x.pay(0, 0), -1);
        due("4 too much", x.pay(0, 10000), -1);
        due("4 least", x.pay(0, 1), 0);
        due("4 most", x.pay(299, 9999), 1);
        for (int i = 2; i < 12; i++) {
            due("4 number", x.pay(3, 3), i);
        }
        due("4 full", x.pay(3, 3), -3);
        due("4 bad ahead of full", x.pay(300, 3), -1);
        due("4 no word", x.word(11, 0, -1), -1);
        due("4 no answer", x.word(11, 1, -1), -1);
        due("4 day", x.move(1, 0), 299);
    }

    private static void pays() {
        PaidDebts x = new PaidDebts();
        due("5 sheet below", x.pays(-1, 0, 0, 0), -1);
        due("5 sheet above", x.pays(4, 0, 0, 0), -1);
        due("5 lane below", x.pays(0, -1, 0, 0), -1);
        due("5 lane above", x.pays(0, 3, 0, 0), -1);
        due("5 n below", x.pays(0, 0, 0, -1), -1);
        due("5 n above", x.pays(0, 0, 0, 13), -1);
        due("5 null", x.pays(0, 0, -1, 0), -11);
        x.sheet(0, 1, 24);
        due("5 cast ahead of index", x.pays(0, 2, 25, 1), -12);
        for (int i = 0; i < 12; i++) {
            x.item(0, 1, 2 * i, 10 + i);
            x.item(0, 1, 2 * i + 1, i + 1);
        }
        due("5 index", x.pays(0, 1, 1, 12), -13);
        due("5 from far", x.pays(0, 1, Integer.MAX_VALUE, 12), -13);
        due("5 from far below", x.pays(0, 1, Integer.MIN_VALUE, 12), -13);
        due("5 none at the end", x.pays(0, 1, 24, 0), 0);
        due("5 none behind the end", x.pays(0, 1, 25, 0), -13);
        x.item(0, 1, 23, 0);
        due("5 not", x.pays(0, 1, 0, 12), -2);
        due("5 refused whole", x.count(1), 0);
        due("5 index ahead of not", x.pays(0, 1, 22, 2), -13);
        x.pay(0, 1);
        due("5 not ahead of full", x.pays(0, 1, 0, 12), -2);
        x.item(0, 1, 23, 12);
        due("5 full", x.pays(0, 1, 0, 12), -3);
        due("5 still one", x.count(1), 1);
        due("5 eleven", x.pays(0, 1, 2, 11), 11);
        due("5 twelve", x.count(1), 12);
        due("5 order", x.move(1, 0), 11);
        due("5 spare", x.put(0, 11, -1, 0), 120000);
        due("5 none into full", x.pays(0, 1, 0, 0), 0);
        x = new PaidDebts();
        x.sheet(1, 0, 2);
        x.item(1, 0, 0, 5);
        x.item(1, 0, 1, 200);
        due("5 bytes have a sign", x.pays(1, 0, 0, 1), -2);
    }

    private static void word() {
        PaidDebts x = new PaidDebts();
        due("6 no payment", x.word(0, 0, -1), -101);
        x.pay(1, 1);
        due("6 no debt", x.word(0, 0, 0), -101);
        x.debt(1, 1, 1, 1);
        x.debt(1, 1, 1, 1);
        due("6 first", x.word(0, 0, 1), -1);
        due("6 then", x.word(0, 0, 0), 1);
        due("6 answer apart", x.word(0, 1, 1), -1);
        due("6 word stays", x.word(0, 0, -1), 0);
        due("6 none again", x.word(0, 0, -1), -1);
        due("6 answer", x.word(0, 1, -1), 1);
        due("6 debt above", x.word(0, 0, 2), -101);
        due("6 debt below", x.word(0, 0, -2), -101);
        due("6 what above", x.word(0, 2, 0), -101);
        due("6 what below", x.word(0, -1, 0), -101);
        due("6 payment above", x.word(1, 0, 0), -101);
        due("6 payment below", x.word(-1, 0, 0), -101);
    }

    private static void move() {
        PaidDebts x = new PaidDebts();
        due("7 no payment", x.move(0, 0), -1);
        x.debt(10, 0, 0, 0);
        x.pay(20, 4);
        due("7 was", x.move(0, 299), 20);
        due("7 was most", x.move(0, 7), 299);
        due("7 day above", x.move(0, 300), -1);
        due("7 day below", x.move(0, -1), -1);
        due("7 payment below", x.move(-1, 0), -1);
        due("7 ahead", x.owed(0, 6), 100000);
        due("7 behind", x.owed(0, 7), 60000);
    }

    private static void count() {
        PaidDebts x = new PaidDebts();
        x.debt(1, 0, 0, 0);
        x.debt(1, 0, 0, 0);
        x.debt(1, 0, 0, 0);
        x.pay(0, 1);
        x.set(0, 1, 0);
        x.set(2, 1, 0);
        x.set(1, 2, 1);
        due("8 debts", x.count(0), 3);
        due("8 payments", x.count(1), 1);
        due("8 pledges", x.count(2), 2);
        due("8 stands", x.count(3), 1);
        x.set(2, 1, -1);
        due("8 pledge taken back", x.count(2), 1);
        due("8 below", x.count(-1), -1);
        due("8 above", x.count(4), -1);
    }

    private static void type() {
        PaidDebts x = new PaidDebts();
        due("9 n below", x.type('c', 0), -1);
        due("9 n above", x.type('c', 9), -1);
        due("9 byte below", x.type(31, 1), -1);
        due("9 byte above", x.type(127, 1), -1);
        due("9 byte with a sign", x.type(255, 1), -1);
        due("9 a bad one among good ones", x.type(0x6300_6364L, 4), -1);
        due("9 bytes above n are not seen", x.type(0xff_63L, 1), 1);
        due("9 highest first", x.type(0x64_68L, 2), 3);
        due("9 eight", x.type(0x2020202020202020L, 8), 11);
        due("9 edges", x.type(0x7e20L, 2), 13);
        due("9 the place of 126", x.law(0), -20 - 11);
        x.type(0x64_68L, 2);
        due("9 two letters", x.law(0), 2);
        due("9 first letter", x.letter(0, 0), 'd');
        due("9 second letter", x.letter(0, 1), 'h');
        for (int i = 1; i <= 5; i++) {
            due("9 length", x.type(0x2020202020202020L, 8), 8 * i);
        }
        due("9 full", x.type(' ', 1), -3);
        due("9 bad ahead of full", x.type(7, 1), -1);
        x.law(0);
        x.type(0x2020202020202020L, 7);
        for (int i = 1; i <= 4; i++) {
            x.type(0x2020202020202020L, 8);
        }
        due("9 no room for two", x.type(0x2020L, 2), -3);
        due("9 room for one", x.type(0x20L, 1), 40);
    }

    private static void law() {
        PaidDebts x = new PaidDebts();
        rule(x, 0, "c t");
        x.type('h', 1);
        due("10 below", x.law(-1), -1);
        due("10 above", x.law(2), -1);
        due("10 bad keeps the tape", x.law(1), 1);
        due("10 the tape is empty then", x.law(1), -20);
        due("10 a fault keeps the law", x.letter(1, 0), 'h');
        x.type(0x202020, 3);
        due("10 blanks alone", x.law(0), -23);
        x.type(0x6420_7a, 3);
        due("10 no letter of laws", x.law(0), -22);
        due("10 a fault takes the tape", x.law(0), -20);
        x.type(0x2064_6864, 4);
        due("10 twice", x.law(0), -23);
        x.type('C', 1);
        due("10 great letter", x.law(0), -20);
        due("10 the law stays", x.letter(0, 1), 't');
        rule(x, 1, "  c t s x p  d h u o l ");
        due("10 all", x.letter(1, 9), 'l');
        rule(x, 1, "l");
        due("10 the old one is gone", x.letter(1, 1), -4);
    }

    private static void letter() {
        PaidDebts x = new PaidDebts();
        rule(x, 1, " o  c");
        due("11 first", x.letter(1, 0), 'o');
        due("11 second", x.letter(1, 1), 'c');
        due("11 no more", x.letter(1, 2), -4);
        due("11 far", x.letter(1, Integer.MAX_VALUE), -4);
        due("11 the other", x.letter(0, 0), -4);
        due("11 below", x.letter(1, -1), -1);
        due("11 law below", x.letter(-1, 0), -1);
        due("11 law above", x.letter(2, 0), -1);
    }

    private static void left() {
        PaidDebts x = new PaidDebts();
        x.debt(1, 4, 0, 99);
        x.debt(1, 4, 0, 99);
        x.set(1, 0, 1);
        due("12 ahead of since", x.left(0, 0, 3, 2), 0);
        due("12 on since", x.left(0, 0, 4, 2), 10000);
        due("12 nothing runs on since", x.left(0, 0, 4, 1), 0);
        due("12 a day", x.left(0, 0, 5, 1), 99);
        due("12 simply", x.left(0, 0, 7, 1), 297);
        due("12 upon itself", x.left(0, 1, 7, 1), 298);
        due("12 sum", x.left(0, 1, 7, 0), 10000);
        due("12 both", x.left(0, 1, 7, 2), 10298);
        x.debt(100, 0, 0, 10);
        rule(x, 1, "s h");
        x.set(2, 4, 99);
        x.pay(2, 1);
        due("12 run first, sum", x.left(0, 2, 2, 0), 1000000);
        due("12 run first, run", x.left(0, 2, 2, 1), 9800);
        due("12 sum first, sum", x.left(1, 2, 2, 0), 990000);
        due("12 sum first, run", x.left(1, 2, 2, 1), 19800);
        due("12 the next day", x.left(1, 2, 3, 1), 19800 + 9801);
        due("12 law", x.left(2, 0, 0, 0), -1);
        due("12 law below", x.left(-1, 0, 0, 0), -1);
        due("12 debt", x.left(0, 3, 0, 0), -1);
        due("12 debt below", x.left(0, -1, 0, 0), -1);
        due("12 day", x.left(0, 0, 300, 0), -1);
        due("12 day below", x.left(0, 0, -1, 0), -1);
        due("12 what", x.left(0, 0, 0, 3), -1);
        due("12 what below", x.left(0, 0, 0, -1), -1);
    }

    private static void leftByWordsAndAnswers() {
        PaidDebts x = new PaidDebts();
        x.debt(10, 0, 0, 0);
        x.debt(10, 0, 0, 0);
        x.debt(10, 5, 0, 0);
        x.pay(3, 12);
        x.word(0, 0, 1);
        x.word(0, 1, 0);
        due("12 no word by the empty law", x.left(0, 0, 3, 2), 0);
        rule(x, 0, "t");
        due("12 an answer by t", x.left(0, 0, 3, 2), 0);
        rule(x, 0, "tc");
        due("12 a word ahead of an answer", x.left(0, 1, 3, 2), 0);
        due("12 what is over", x.left(0, 0, 3, 2), 80000);
        x.word(0, 1, 1);
        x.word(0, 0, 2);
        due("12 a word to one that is not open", x.left(0, 1, 3, 2), 0);
        rule(x, 0, "c");
        due("12 no answer without t", x.left(0, 0, 3, 2), 0);
        x.move(0, 5);
        due("12 open on since", x.left(0, 2, 5, 2), 0);
        due("12 over to the first", x.left(0, 0, 5, 2), 80000);
    }

    private static void leftByKeys() {
        PaidDebts x = new PaidDebts();
        x.debt(30, 3, 50, 1);
        x.debt(20, 2, 8, 9);
        x.debt(40, 1, 9, 0);
        x.debt(25, 0, 50, 4);
        x.set(0, 1, 5);
        x.set(1, 2, 1);
        x.set(2, 1, 0);
        x.pay(8, 1);
        String[] laws = {"d", "h", "u", "o", "l", "s"};
        int[] first = {1, 1, 3, 3, 2, 0};
        for (int i = 0; i < laws.length; i++) {
            rule(x, 0, laws[i]);
            for (int d = 0; d < 4; d++) {
                long got = x.put(0, 0, d, 0) + x.put(0, 0, d, 1);
                due("12 by " + laws[i] + " to " + d, got, d == first[i] ? 10000 : 0);
            }
        }
        x.move(0, 9);
        rule(x, 0, "d o");
        due("12 both are due, the older", x.put(0, 0, 2, 0), 10000);
        rule(x, 0, "d h");
        due("12 both are due, the dearer", x.put(0, 0, 1, 1), 1260);
    }

    private static void leftByParts() {
        PaidDebts x = new PaidDebts();
        x.debt(1, 0, 0, 0);
        x.debt(1, 0, 0, 0);
        x.debt(1, 0, 0, 0);
        x.debt(2, 1, 0, 0);
        x.pay(1, 1);
        rule(x, 0, "p o");
        due("12 parts, first with what the cuts leave", x.left(0, 0, 1, 2), 10000 - 3334);
        due("12 parts, second", x.left(0, 1, 1, 2), 10000 - 3333);
        due("12 parts, third", x.left(0, 2, 1, 2), 10000 - 3333);
        due("12 parts, not alike", x.left(0, 3, 1, 2), 20000);
        rule(x, 0, "p");
        due("12 parts of five, lesser", x.left(0, 1, 1, 2), 8000);
        due("12 parts of five, greater", x.left(0, 3, 1, 2), 16000);
        x.pay(1, 3);
        rule(x, 0, "o p");
        due("12 in full, what is over goes on", x.left(0, 3, 1, 2), 10000);
        x.word(0, 0, 3);
        rule(x, 0, "c o p");
        due("12 a word ahead of parts", x.put(0, 0, 3, 0), 10000);
        due("12 parts behind a word", x.put(0, 1, 3, 0), 0);
    }

    /** Where a single part decides. */
    private static void singleParts() {
        PaidDebts x = new PaidDebts();
        x.debt(1, 0, 0, 1);
        x.pay(1, 1);
        due("12 one part is left", x.left(0, 0, 1, 2), 1);
        due("19 one part is open", x.rank(0, 1, 0), 0);
        due("15 one part is not paid", x.paid(0, 0), -4);
        x.pay(2, 1);
        due("14 one part is taken", x.put(0, 1, 0, 0), 1);
        due("14 the rest is spare", x.put(0, 1, -1, 0), 9999);

        x = new PaidDebts();
        x.debt(1, 0, 0, 99);
        x.debt(5, 0, 0, 0);
        x.pay(101, 2);
        due("14 of 20000 the first takes 19999", x.put(0, 0, 0, 0) + x.put(0, 0, 0, 1), 19999);
        due("14 one part is over", x.put(0, 0, 1, 0), 1);
        x.word(0, 0, 0);
        rule(x, 0, "c");
        due("14 one part is over behind a word", x.put(0, 0, 1, 0), 1);

        x = new PaidDebts();
        x.debt(9999, 0, 0, 0);
        x.debt(1, 0, 0, 1);
        x.set(1, 3, 5);
        x.pay(1, 1);
        x.word(0, 0, 1);
        x.pay(20, 1);
        rule(x, 0, "p c");
        due("14 a part that is cut to nothing", x.put(0, 1, 1, 0) + x.put(0, 1, 1, 1), 0);
        due("14 what the cuts leave goes to the first", x.put(0, 1, 0, 0), 10000);
        due("17 nothing wakes nobody", x.wakes(0, 1), -4);
        due("16 nothing gives no time", x.dead(0, 1, 21), 1);

        x = new PaidDebts();
        x.debt(2, 0, 0, 50);
        x.pay(100, 1);
        rule(x, 0, "s");
        due("12 sum as much as run, sum", x.left(0, 0, 100, 0), 10000);
        due("12 sum as much as run, run", x.left(0, 0, 100, 1), 10000);
        due("15 sum as much as run is not paid", x.paid(0, 0), -4);
    }

    private static void owed() {
        PaidDebts x = new PaidDebts();
        x.debt(3, 0, 0, 10);
        x.debt(4, 6, 0, 0);
        x.pay(2, 1);
        due("13 first", x.owed(0, 0), 30000);
        due("13 behind payments", x.owed(0, 2), 30060 - 10000);
        due("13 not yet since", x.owed(0, 5), 20060 + 3 * 20);
        due("13 since", x.owed(0, 6), 20060 + 4 * 20 + 40000);
        due("13 each day is cut", x.owed(0, 102), 20060 + 100 * 20 + 40000);
        due("13 law", x.owed(2, 0), -1);
        due("13 law below", x.owed(-1, 0), -1);
        due("13 day", x.owed(0, 300), -1);
        due("13 day below", x.owed(0, -1), -1);
    }

    private static void put() {
        PaidDebts x = new PaidDebts();
        x.debt(3, 0, 0, 10);
        x.debt(1, 9, 0, 0);
        x.pay(4, 9);
        x.pay(2, 1);
        due("14 to what had run", x.put(0, 1, 0, 1), 60);
        due("14 to the sum", x.put(0, 1, 0, 0), 9940);
        due("14 nothing spare", x.put(0, 1, -1, 1), 0);
        due("14 later, run", x.put(0, 0, 0, 1), 40);
        due("14 later, sum", x.put(0, 0, 0, 0), 20060);
        due("14 not to one that is not yet", x.put(0, 0, 1, 0), 0);
        due("14 spare", x.put(0, 0, -1, 0), 90000 - 20100);
        due("14 spare, the other what", x.put(0, 0, -1, 1), 90000 - 20100);
        due("14 law", x.put(2, 0, 0, 0), -1);
        due("14 payment", x.put(0, 2, 0, 0), -1);
        due("14 payment below", x.put(0, -1, 0, 0), -1);
        due("14 debt", x.put(0, 0, 2, 0), -1);
        due("14 debt below", x.put(0, 0, -2, 0), -1);
        due("14 what", x.put(0, 0, 0, 2), -1);
        due("14 what of spare", x.put(0, 0, -1, 2), -1);
        x.move(0, 2);
        due("14 the lower number of a day", x.put(0, 1, -1, 0), 10000);
    }

    private static void paid() {
        PaidDebts x = new PaidDebts();
        x.debt(3, 5, 0, 0);
        x.debt(3, 0, 0, 0);
        due("15 none", x.paid(0, 0), -4);
        x.pay(9, 3);
        x.pay(7, 2);
        due("15 not ahead of since", x.paid(0, 0), 9);
        due("15 something is left", x.paid(0, 1), -4);
        x.pay(299, 1);
        due("15 on the last day", x.paid(0, 1), 299);
        due("15 law", x.paid(2, 0), -1);
        due("15 debt", x.paid(0, 2), -1);
        due("15 debt below", x.paid(0, -1), -1);
    }

    /** A debt that is due on day 5, with a time of 7 days. */
    private static PaidDebts timed() {
        PaidDebts x = new PaidDebts();
        x.debt(10, 0, 5, 0);
        x.set(0, 3, 7);
        return x;
    }

    private static void dead() {
        PaidDebts x = timed();
        due("16 not yet", x.dead(0, 0, 12), 0);
        due("16 out of time", x.dead(0, 0, 13), 1);
        x.pay(12, 1);
        due("16 later", x.dead(0, 0, 19), 0);
        due("16 out of time again", x.dead(0, 0, 20), 1);
        x.pay(20, 1);
        due("16 ahead of the day's payments", x.dead(0, 0, 20), 1);
        due("16 woken", x.dead(0, 0, 21), 0);
        x.pay(28, 8);
        due("16 paid", x.dead(0, 0, 290), 0);
        x.set(0, 3, 0);
        x.move(2, 299);
        due("16 without end", x.dead(0, 0, 298), 0);
        x.debt(1, 50, 0, 0);
        x.set(1, 3, 7);
        due("16 not open ahead of since", x.dead(0, 1, 49), 0);
        due("16 at once", x.dead(0, 1, 50), 1);
        due("16 law", x.dead(2, 0, 0), -1);
        due("16 debt", x.dead(0, 2, 0), -1);
        due("16 debt below", x.dead(0, -1, 0), -1);
        due("16 day", x.dead(0, 0, 300), -1);
        due("16 day below", x.dead(0, 0, -1), -1);
    }

    private static void wakes() {
        PaidDebts x = timed();
        x.pay(12, 1);
        due("17 was not dead", x.wakes(0, 0), -4);
        x.pay(30, 1);
        x.pay(60, 1);
        due("17 the first", x.wakes(0, 0), 30);
        rule(x, 1, "x c t");
        due("17 by x nothing", x.wakes(1, 0), -4);
        due("17 by x spare", x.put(1, 1, -1, 0), 10000);
        x.word(2, 0, 0);
        due("17 by a word", x.wakes(1, 0), 60);
        x.word(1, 1, 0);
        due("17 by an answer", x.wakes(1, 0), 30);
        x.word(1, 1, -1);
        x.pay(60, 2);
        due("17 woken for the next of the day", x.put(1, 3, 0, 0), 20000);
        due("17 law", x.wakes(-1, 0), -1);
        due("17 debt", x.wakes(0, 1), -1);
        due("17 debt below", x.wakes(0, -1), -1);
    }

    private static void free() {
        PaidDebts x = new PaidDebts();
        x.debt(3, 0, 0, 0);
        x.debt(2, 40, 0, 0);
        due("18 not", x.free(0, 2), -2);
        x.set(0, 1, 2);
        due("18 never", x.free(0, 2), -4);
        x.pay(10, 3);
        due("18 free", x.free(0, 2), 10);
        x.set(1, 1, 2);
        due("18 one that is not yet since", x.free(0, 2), -4);
        x.pay(299, 2);
        due("18 on the last day", x.free(0, 2), 299);
        x.move(1, 45);
        due("18 the later one", x.free(0, 2), 45);
        x.set(0, 1, -1);
        x.debt(1, 0, 0, 0);
        x.set(2, 1, 2);
        rule(x, 1, "o");
        x.pay(10, 1);
        due("18 the later one, of the lower number", x.free(1, 2), 45);
        due("18 another", x.free(0, 5), -2);
        due("18 pledge", x.free(0, 6), -1);
        due("18 pledge below", x.free(0, -1), -1);
        due("18 law", x.free(2, 0), -1);
    }

    private static void rank() {
        PaidDebts x = new PaidDebts();
        x.debt(3, 0, 0, 1);
        x.debt(2, 9, 0, 5);
        x.debt(4, 1, 0, 5);
        rule(x, 0, "h");
        rule(x, 1, "x l");
        due("19 first", x.rank(0, 9, 0), 1);
        due("19 of like ones the first", x.rank(0, 9, 1), 2);
        due("19 last", x.rank(0, 9, 2), 0);
        due("19 no more", x.rank(0, 9, 3), -4);
        due("19 far", x.rank(0, 9, Integer.MAX_VALUE), -4);
        due("19 not yet since", x.rank(0, 8, 0), 2);
        x.pay(9, 3);
        due("19 behind payments", x.rank(1, 9, 0), 0);
        x.set(0, 3, 8);
        due("19 by x not dead", x.rank(1, 9, 0), 1);
        due("19 without x dead too", x.rank(0, 9, 1), 0);
        PaidDebts woken = timed();
        rule(woken, 0, "x c");
        woken.pay(30, 1);
        woken.word(0, 0, 0);
        due("19 dead on the day ahead", woken.rank(0, 29, 0), -4);
        due("19 dead ahead of the payment that wakes it", woken.dead(0, 0, 30), 1);
        due("19 woken behind it", woken.rank(0, 30, 0), 0);
        due("19 dead again", woken.rank(0, 38, 0), -4);
        due("19 below", x.rank(0, 0, -1), -1);
        due("19 law", x.rank(2, 0, 0), -1);
        due("19 day", x.rank(0, 300, 0), -1);
        due("19 day below", x.rank(0, -1, 0), -1);
    }

    /** A debt on which nothing runs ahead of one on which much does. */
    private static PaidDebts dearer() {
        PaidDebts x = new PaidDebts();
        x.debt(100, 0, 0, 0);
        x.debt(10, 0, 0, 99);
        return x;
    }

    private static void best() {
        PaidDebts x = dearer();
        due("20 not", x.best(0, 1, 0, 0), -102);
        x.pay(2, 20);
        x.pay(2, 20);
        due("20 no word counts", x.best(0, 1, 9, 0), -1);
        rule(x, 0, "c");
        due("20 word", x.best(0, 1, 9, 0), 1);
        due("20 on its day alike", x.best(0, 1, 2, 0), -1);
        due("20 ahead of its day alike", x.best(0, 1, 1, 0), -1);
        due("20 of two, the first", x.best(0, 2, 9, 0), -1);
        due("20 of two, the second", x.best(0, 2, 9, 1), 1);
        x.move(1, 3);
        due("20 earlier, the first", x.best(0, 2, 9, 0), 1);
        due("20 earlier, the second", x.best(0, 2, 9, 1), -1);
        x.word(1, 0, 1);
        due("20 a word that stands beside", x.best(0, 1, 2, 0), -1);
        due("20 the words stay", x.word(1, 0, 1), 1);
        due("20 not three", x.best(0, 3, 9, 0), -102);
        x.pay(1, 1);
        due("20 three", x.best(0, 3, 9, 2), 1);
        due("20 i above", x.best(0, 1, 9, 1), -101);
        due("20 i below", x.best(0, 1, 9, -1), -101);
        due("20 n above", x.best(0, 4, 9, 0), -101);
        due("20 n below", x.best(0, 0, 9, 0), -101);
        due("20 day", x.best(0, 1, 300, 0), -101);
        due("20 law", x.best(2, 1, 9, 0), -101);
    }

    private static void least() {
        PaidDebts x = dearer();
        due("21 not", x.least(0, 1, 0), -2);
        x.pay(2, 20);
        due("21 no word counts", x.least(0, 1, 4), 1000000 + 100000 + 4 * 990 - 200000);
        rule(x, 0, "c");
        due("21 by the word", x.least(0, 1, 4), 1000000 + 100000 + 2 * 990 - 200000);
        due("21 law", x.least(2, 1, 4), -1);
        due("21 n", x.least(0, 4, 4), -1);
        due("21 n below", x.least(0, 0, 4), -1);
        due("21 not ahead of nothing", x.least(0, 2, 300), -1);
        due("21 fewer", x.least(0, 2, 4), -2);
    }

    private static void answer() {
        PaidDebts x = new PaidDebts();
        x.debt(10, 0, 0, 99);
        x.debt(100, 0, 0, 0);
        due("22 no payment", x.answer(0, 0, 0), -101);
        x.pay(2, 5);
        due("22 no answer counts", x.answer(0, 0, 9), -1);
        rule(x, 0, "t");
        due("22 answer", x.answer(0, 0, 9), 1);
        due("22 on its day alike", x.answer(0, 0, 2), -1);
        due("22 nothing is written", x.word(0, 1, -1), -1);
        rule(x, 0, "t c");
        x.word(0, 0, 0);
        due("22 a word stands", x.answer(0, 0, 9), -1);
        due("22 law", x.answer(2, 0, 0), -101);
        due("22 payment", x.answer(0, 1, 0), -101);
        due("22 payment below", x.answer(0, -1, 0), -101);
        due("22 day", x.answer(0, 0, 300), -101);
        due("22 day below", x.answer(0, 0, -1), -101);
    }

    private static void hangs() {
        PaidDebts x = new PaidDebts();
        x.debt(10, 0, 0, 10);
        due("23 no payment", x.hangs(0, 0, 0, 0, 0, 0), -1);
        x.pay(77, 5);
        due("23 least", x.hangs(0, 0, 0, 20, 20, 0), 51000);
        due("23 most", x.hangs(0, 0, 0, 20, 20, 1), 52000);
        due("23 one day", x.hangs(0, 0, 10, 10, 20, 1), 51510);
        due("23 behind the day", x.hangs(0, 0, 0, 21, 20, 1), 102000);
        due("23 all behind the day", x.hangs(0, 0, 200, 299, 20, 0), 102000);
        due("23 nothing is moved", x.move(0, 77), 77);
        due("23 from above to", x.hangs(0, 0, 5, 4, 20, 0), -1);
        due("23 from", x.hangs(0, 0, -1, 4, 20, 0), -1);
        due("23 to", x.hangs(0, 0, 0, 300, 20, 0), -1);
        due("23 day", x.hangs(0, 0, 0, 4, 300, 0), -1);
        due("23 what", x.hangs(0, 0, 0, 4, 20, 2), -1);
        due("23 what below", x.hangs(0, 0, 0, 4, 20, -1), -1);
        due("23 law", x.hangs(2, 0, 0, 4, 20, 0), -1);
        due("23 payment", x.hangs(0, 1, 0, 4, 20, 0), -1);
    }

    private static void plan() {
        PaidDebts x = new PaidDebts();
        due("24 no debts", x.plan(0, 3, 8, 5, 0), 8);
        due("24 no debts, all is spare", x.plan(0, 3, 8, 5, 1), 30000);
        x.debt(10, 0, 0, 0);
        due("24 day", x.plan(0, 3, 2, 5, 0), 17);
        due("24 spare", x.plan(0, 3, 2, 5, 1), 20000);
        due("24 none", x.plan(0, 3, 290, 5, 0), -4);
        due("24 none spare", x.plan(0, 3, 290, 5, 1), -4);
        due("24 on the last day", x.plan(0, 10, 299, 60, 0), 299);
        due("24 nothing spare", x.plan(0, 10, 299, 60, 1), 0);
        x.pay(17, 1);
        due("24 behind the others", x.plan(0, 3, 2, 5, 1), 30000);
        x.debt(9, 100, 0, 0);
        due("24 what is not yet since", x.plan(0, 3, 2, 5, 0), 17);
        due("24 nothing is written", x.count(1), 1);
        rule(x, 1, "x");
        x.set(0, 3, 1);
        due("24 by x never", x.plan(1, 3, 2, 5, 0), -4);
        due("24 by x kept awake", x.plan(1, 3, 1, 1, 0), 4);
        due("24 law", x.plan(2, 3, 2, 5, 0), -1);
        due("24 whole", x.plan(0, 10000, 2, 5, 0), -1);
        due("24 whole below", x.plan(0, 0, 2, 5, 0), -1);
        due("24 day above", x.plan(0, 3, 300, 5, 0), -1);
        due("24 each", x.plan(0, 3, 2, 61, 0), -1);
        due("24 each below", x.plan(0, 3, 2, 0, 0), -1);
        due("24 what", x.plan(0, 3, 2, 5, 2), -1);
        due("24 what below", x.plan(0, 3, 2, 5, -1), -1);
    }

    /** By law 0 what has run goes first, by law 1 the sum. */
    private static PaidDebts parting() {
        PaidDebts x = new PaidDebts();
        x.debt(100, 0, 0, 10);
        x.pay(10, 5);
        rule(x, 1, "s");
        return x;
    }

    private static void parts() {
        PaidDebts x = parting();
        due("25 left alike in all behind the payment, a day further not", x.parts(), 11);
        x.move(0, 0);
        due("25 nothing has run", x.parts(), -4);
        x.move(0, 298);
        due("25 on the last day", x.parts(), 299);
        due("25 alike on the day ahead", x.left(0, 0, 298, 2) - x.left(1, 0, 298, 2), 0);
        x.move(0, 299);
        due("25 no day is left to run on unlike", x.parts(), -4);
        x.move(0, 10);
        x.set(0, 0, 1);
        due("25 upon itself the cut does not count", x.parts(), -4);
        x.set(0, 0, 0);
        x.set(0, 4, 0);
        due("25 nothing runs", x.parts(), -4);
        x.set(0, 4, 10);
        rule(x, 0, "s");
        due("25 never", x.parts(), -4);
        x = new PaidDebts();
        due("25 no debts", x.parts(), -4);
        x.debt(10, 0, 0, 5);
        x.debt(10, 0, 0, 7);
        due("25 no payments", x.parts(), -4);
        x.pay(4, 3);
        rule(x, 1, "h");
        due("25 to another debt on the day itself", x.parts(), 4);
        due("25 though as much is owed in all", x.gap(4), 0);
        x.move(0, 299);
        due("25 to another debt on the last day", x.parts(), 299);
        x = new PaidDebts();
        x.debt(3, 0, 0, 10);
        x.pay(10, 1);
        rule(x, 1, "s");
        due("25 sums of 20300 and 20000 run on by 20 alike", x.parts(), -4);
        x.pay(50, 1);
        due("25 sums of 11100 and 10000 do not", x.parts(), 51);
    }

    private static void gap() {
        PaidDebts x = parting();
        due("26 alike in all", x.gap(10), 0);
        due("26 a day further", x.gap(11), -10);
        due("26 ten days further", x.gap(20), -100);
        due("26 below", x.gap(-1), -1000000000001L);
        due("26 above", x.gap(300), -1000000000001L);
    }

    private static void judge() {
        PaidDebts x = new PaidDebts();
        x.sheet(2, 0, 4);
        due("27 no debts", x.judge(0, 0, 2, 0, 4), -4);
        due("27 no debts, behind the end", x.judge(0, 0, 2, 0, 5), -13);
        x.debt(3, 0, 0, 99);
        x.debt(200, 0, 0, 0);
        x.item(2, 0, 1, 3);
        x.item(2, 0, 2, 200);
        due("27 bytes have a sign", x.judge(0, 30, 2, 0, 1), 1);
        x.sheet(2, 1, 3);
        x.item(2, 1, 1, 3);
        x.item(2, 1, 2, 200);
        due("27 none, cut", x.judge(0, 30, 2, 1, 1), -4);
        due("27 the first", x.judge(0, 40, 2, 1, 1), 0);
        due("27 index", x.judge(0, 30, 2, 1, 2), -13);
        due("27 index below", x.judge(0, 30, 2, 1, -1), -13);
        due("27 index far", x.judge(0, 30, 2, 1, Integer.MAX_VALUE), -13);
        due("27 cast ahead of index", x.judge(0, 30, 2, 2, 9), -12);
        due("27 null ahead of index", x.judge(0, 30, 1, 2, 9), -11);
        due("27 law", x.judge(2, 30, 1, 2, 9), -1);
        due("27 day", x.judge(0, 300, 1, 2, 9), -1);
        due("27 sheet", x.judge(0, 30, 4, 2, 9), -1);
        due("27 lane", x.judge(0, 30, 1, 3, 9), -1);
    }

    private static void imageAndRestore() {
        PaidDebts x = new PaidDebts();
        due("29 none", x.restore(), -4);
        x.debt(3, 0, 5, 7);
        x.set(0, 1, 4);
        x.pay(1, 2);
        x.word(0, 0, 0);
        rule(x, 0, "c d");
        x.sheet(0, 0, 3);
        due("28 image", x.image(), 1);
        x.set(0, 1, 5);
        x.set(0, 0, 1);
        x.word(0, 0, -1);
        x.word(0, 1, 0);
        x.move(0, 9);
        x.debt(1, 1, 1, 1);
        x.pay(1, 1);
        rule(x, 0, "h");
        rule(x, 1, "o");
        x.sheet(0, 1, 5);
        for (int time = 0; time < 2; time++) {
            due("29 restore", x.restore(), 1);
            due("29 debts", x.count(0), 1);
            due("29 payments", x.count(1), 1);
            due("29 pledge", x.set(0, 1, 3), 4);
            due("29 itself", x.set(0, 0, 1), 0);
            due("29 word", x.word(0, 0, -1), 0);
            due("29 answer", x.word(0, 1, 0), -1);
            due("29 day", x.move(0, 9), 1);
            due("29 law", x.letter(0, 1), 'd');
            due("29 empty law", x.letter(1, 0), -4);
            rule(x, 1, time == 0 ? "o" : "l");
        }
        due("29 not the sheets", x.drop(0), 5);
        x = new PaidDebts();
        x.image();
        x.type('p', 1);
        x.restore();
        due("29 not the tape", x.law(0), 1);
        x.debt(1, 0, 0, 0);
        x.image();
        x.debt(1, 0, 0, 0);
        x.restore();
        due("28 the newer image", x.count(0), 1);
        x.pay(1, 1);
        x.word(0, 0, 0);
        x.word(0, 1, 0);
        x.restore();
        x.pay(1, 1);
        due("29 a new payment has no word", x.word(0, 0, 0), -1);
        due("29 a new payment has no answer", x.word(0, 1, 0), -1);
        int[] most = {1, 5, 1, 299, 99, 299};
        int[] begun = {0, -1, 0, 0, 7, 8};
        x.restore();
        x.debt(1, 0, 0, 0);
        for (int what = 0; what < 6; what++) {
            x.set(1, what, most[what]);
        }
        x.restore();
        x.debt(1, 0, 8, 7);
        for (int what = 0; what < 6; what++) {
            due("29 a new debt is as it begins, " + what, x.set(1, what, 0), begun[what]);
        }
    }

    private static void sheet() {
        PaidDebts x = new PaidDebts();
        due("30 least", x.sheet(0, 0, 0), 0);
        due("30 most", x.sheet(3, 2, 24), 24);
        due("30 n above", x.sheet(0, 0, 25), -1);
        due("30 size", x.sheet(0, 0, -1), -14);
        due("30 far below", x.sheet(0, 0, Integer.MIN_VALUE), -14);
        due("30 bad ahead of size", x.sheet(4, 0, -1), -1);
        due("30 sheet below", x.sheet(-1, 0, 1), -1);
        due("30 lane", x.sheet(0, 3, 1), -1);
        due("30 lane below", x.sheet(0, -1, -1), -1);
        due("30 refused keeps the row", x.drop(3), 24);
        x.sheet(1, 2, 2);
        x.item(1, 2, 0, 7);
        x.item(1, 2, 1, 7);
        due("30 a new row", x.sheet(1, 2, 2), 2);
        due("30 of nothing", x.pays(1, 2, 0, 1), -2);
    }

    private static void drop() {
        PaidDebts x = new PaidDebts();
        due("31 null", x.drop(0), -11);
        x.sheet(0, 1, 9);
        due("31 items", x.drop(0), 9);
        due("31 null again", x.drop(0), -11);
        x.sheet(2, 1, 0);
        due("31 an empty row is one", x.drop(2), 0);
        due("31 below", x.drop(-1), -1);
        due("31 above", x.drop(4), -1);
    }

    private static void item() {
        PaidDebts x = new PaidDebts();
        due("32 null", x.item(0, 1, -1, 0), -11);
        x.sheet(0, 1, 2);
        due("32 cast ahead of index", x.item(0, 0, 2, 0), -12);
        due("32 index", x.item(0, 1, 2, 0), -13);
        due("32 index below", x.item(0, 1, -1, 0), -13);
        due("32 sheet", x.item(4, 1, 0, 0), -1);
        due("32 sheet below", x.item(-1, 1, 0, 0), -1);
        due("32 lane", x.item(0, 3, 0, 0), -1);
        due("32 lane below", x.item(0, -1, 0, 0), -1);
        due("32 written", x.item(0, 1, 0, 65536 + 40), 1);
        due("32 written too", x.item(0, 1, 1, 65536 * 9 + 3), 1);
        due("32 lowest bits", x.pays(0, 1, 0, 1), 1);
        due("32 the day", x.move(0, 1), 40);
        due("32 the wholes", x.put(0, 0, -1, 0), 30000);
        x.sheet(0, 0, 2);
        x.item(0, 0, 0, 256 + 41);
        x.item(0, 0, 1, 127 - 256);
        due("32 lowest bits of bytes", x.pays(0, 0, 0, 1), 1);
        due("32 the day of bytes", x.move(1, 1), 41);
        due("32 the wholes of bytes", x.put(0, 1, -1, 0), 1270000);
    }
}
