import java.util.ArrayList;
import java.util.Collections;
import java.util.List;
import java.util.Random;

/**
 * Books of some debts and payments by a seeded dice; behind each single change every question is asked anew, with the
 * same numbers, and compared with a plain model. So no answer may be by what stood ahead of the change. Each object is
 * used for 512 calls.
 */
public final class SweepsTest extends Checks {
    private static final int BOOKS = 120;
    private static final int CALLS = 512;
    private static final String LETTERS = "ctsxpdhuol";

    private final Random dice;
    private final PaidDebts real = new PaidDebts();
    private final Model model = new Model();
    private final int book;
    private int calls = 0;
    private String lastChange = "the book was made";
    /** The numbers of the questions: two debts, a payment, a pledge, days, wholes, a place in the rank. */
    private final int debt, other, payment, pledge, day, late, wholes, place;

    private SweepsTest(int book) {
        this.book = book;
        dice = new Random(book);
        debt = dice.nextInt(3);
        other = (debt + 1 + dice.nextInt(2)) % 3;
        payment = dice.nextInt(3);
        pledge = dice.nextInt(2);
        day = 15 + dice.nextInt(20);
        late = 40 + dice.nextInt(40);
        wholes = 2 + dice.nextInt(6);
        place = dice.nextInt(2);
    }

    public static void main(String[] args) {
        for (int book = 0; book < BOOKS; book++) {
            new SweepsTest(book).go();
        }
        end("all sweeps are as due");
    }

    private void go() {
        make();
        int sweep = calls;
        ask();
        sweep = calls - sweep;
        // A change makes some calls too, at most that many.
        int change = 12;
        while (CALLS - calls >= sweep + change) {
            change();
            ask();
        }
        while (calls < CALLS) {
            same("owed", real.owed(0, late), model.owed(0, late));
        }
    }

    private void same(String call, long got, long due) {
        calls++;
        due("book " + book + ", call " + calls + ", " + call + " behind " + lastChange, got, due);
    }

    private void make() {
        for (int d = 0; d < 3; d++) {
            addDebt();
            for (int what = 1; what < 4; what++) {
                if (dice.nextBoolean()) {
                    set(d, what);
                }
            }
        }
        for (int p = 0; p < 4; p++) {
            pay(5 + dice.nextInt(35), 2 + dice.nextInt(8));
            word(p, 0);
            word(p, 1);
        }
        law(0);
        law(1);
        same("sheet", real.sheet(0, 2, 10), model.sheet(0, 2, 10));
        item(8, 5 + dice.nextInt(30));
        item(9, 1 + dice.nextInt(9));
        tellRightly();
        same("image", real.image(), model.image());
    }

    private void addDebt() {
        int whole = 3 + dice.nextInt(12), since = dice.nextInt(3) * 6;
        int due = dice.nextInt(40), rate = dice.nextInt(5) * 20;
        same("debt", real.debt(whole, since, due, rate), model.debt(whole, since, due, rate));
    }

    private void set(int d, int what) {
        int v = what == 1 ? dice.nextInt(3) - 1 : what == 3 ? 4 * dice.nextInt(5) : what == 4 ? dice.nextInt(100)
            : what == 5 ? dice.nextInt(50) : dice.nextInt(2);
        same("set " + what, real.set(d, what, v), model.set(d, what, v));
    }

    private void pay(int on, int whole) {
        same("pay", real.pay(on, whole), model.pay(on, whole));
    }

    private void word(int p, int what) {
        int d = dice.nextInt(model.count(0) + 1) - 1;
        same("word " + what, real.word(p, what, d), model.word(p, what, d));
    }

    private void item(int i, int v) {
        same("item", real.item(0, 2, i, v), model.item(0, 2, i, v));
    }

    private void law(int law) {
        List<Character> letters = new ArrayList<>();
        for (char c : LETTERS.toCharArray()) {
            letters.add(c);
        }
        Collections.shuffle(letters, dice);
        long text = 0;
        int n = 2 + dice.nextInt(5);
        for (int i = 0; i < n; i++) {
            text = text << 8 | letters.get(i);
        }
        same("type", real.type(text, n), model.type(text, n));
        same("law", real.law(law), model.law(law));
    }

    /** By law 0, on the late day: so that judge has something to find behind a change. */
    private void tellRightly() {
        for (int d = 0; d < model.count(0); d++) {
            item(d, (int) (model.left(0, d, late, 2) / 10000));
        }
    }

    private void change() {
        if (model.count(0) < 5) {
            tellRightly();
        }
        int kind = dice.nextInt(16);
        int d = dice.nextInt(model.count(0)), p = dice.nextInt(model.count(1));
        if (kind < 6) {
            lastChange = "set " + kind;
            set(d, kind);
        } else if (kind < 8) {
            lastChange = "word " + (kind - 6);
            word(p, kind - 6);
        } else if (kind < 10) {
            lastChange = "law " + (kind - 8);
            law(kind - 8);
        } else if (kind == 10) {
            int on = dice.nextInt(45);
            lastChange = "move";
            same("move", real.move(p, on), model.move(p, on));
        } else if (kind == 11) {
            lastChange = "pay";
            pay(dice.nextInt(45), 1 + dice.nextInt(8));
        } else if (kind == 12) {
            lastChange = "pays";
            same("pays", real.pays(0, 2, 8, 1), model.pays(0, 2, 8, 1));
        } else if (kind == 13) {
            lastChange = "debt";
            addDebt();
        } else {
            lastChange = "restore";
            same("restore", real.restore(), model.restore());
        }
        if (dice.nextInt(6) == 0) {
            lastChange += ", image";
            same("image", real.image(), model.image());
        }
    }

    private void ask() {
        for (int what = 0; what < 4; what++) {
            same("count", real.count(what), model.count(what));
        }
        for (int l = 0; l < 2; l++) {
            same("letter", real.letter(l, 1), model.letter(l, 1));
            same("left", real.left(l, debt, late, 2), model.left(l, debt, late, 2));
            same("owed", real.owed(l, late), model.owed(l, late));
            same("put", real.put(l, payment, other, 0), model.put(l, payment, other, 0));
            same("paid", real.paid(l, debt), model.paid(l, debt));
            same("dead", real.dead(l, other, day), model.dead(l, other, day));
            same("wakes", real.wakes(l, other), model.wakes(l, other));
            same("free", real.free(l, pledge), model.free(l, pledge));
            same("rank", real.rank(l, day, place), model.rank(l, day, place));
            same("answer", real.answer(l, payment, late), model.answer(l, payment, late));
            same("plan", real.plan(l, wholes, late, 7, 1), model.plan(l, wholes, late, 7, 1));
            same("judge", real.judge(l, late, 0, 2, 0), model.judge(l, late, 0, 2, 0));
        }
        int l = model.laws[0].indexOf('c') >= 0 ? 0 : 1;
        same("best", real.best(l, 2, late, 0), model.best(l, 2, late, 0));
        same("least", real.least(l, 2, late), model.least(l, 2, late));
        same("hangs", real.hangs(l, payment, day, day + 9, late, 1), model.hangs(l, payment, day, day + 9, late, 1));
        same("parts", real.parts(), model.parts());
        same("gap", real.gap(late), model.gap(late));
    }
}
