import java.util.ArrayList;
import java.util.List;
import java.util.Random;

/**
 * Runs of 512 calls by a seeded dice; each answer is compared with that of a plain model that goes day by day. Questions
 * come alone, twice, and ahead of and behind a change.
 */
public final class RandomRunsTest {
    private static final int RUNS = 200;
    private static final int CALLS = 512;
    /** More than a round ever makes. */
    private static final int ROUND = 30;
    /** Some rounds make no call: far more than any run needs. */
    private static final int ROUNDS = 5000;

    private Random dice;
    private final PaidDebts real = new PaidDebts();
    private final Model model = new Model();
    private final List<String> told = new ArrayList<>();
    /** Whether debts and payments come early and questions are of later days, so that much hangs on each choice. */
    private final boolean early;
    private int dearCalls = 0;

    private RandomRunsTest(long seed) {
        dice = new Random(seed);
        early = dice.nextInt(3) != 0;
    }

    public static void main(String[] args) {
        int wrong = 0;
        for (int run = 0; run < RUNS && wrong < 5; run++) {
            RandomRunsTest test = new RandomRunsTest(run);
            String fault = test.go();
            if (fault != null) {
                wrong++;
                System.out.println("run " + run + ": " + fault + " behind " + test.told);
            }
        }
        System.out.println(wrong == 0 ? "all random runs are as due" : wrong + " random runs are not as due");
        if (wrong != 0) {
            System.exit(1);
        }
    }

    private String go() {
        String fault = null;
        for (int i = 0; i < ROUNDS && fault == null && told.size() < CALLS; i++) {
            fault = CALLS - told.size() > ROUND ? round() : singleQuestion();
        }
        return fault == null && told.size() != CALLS ? "there were " + told.size() + " calls" : fault;
    }

    /** A change, a question, a question twice, or a question, a change and the question again. */
    private String round() {
        int kind = dice.nextInt(8);
        if (kind < 3) {
            return change();
        }
        long seed = dice.nextLong();
        String fault = questionBy(seed);
        if (fault == null && kind > 5) {
            fault = change();
        }
        return fault == null && kind > 4 ? questionBy(seed) : fault;
    }

    /** The same question for the same seed, as long as there are as many debts and payments. */
    private String questionBy(long seed) {
        Random outer = dice;
        dice = new Random(seed);
        String fault = question();
        dice = outer;
        return fault;
    }

    /** From low to high; now and then one that is just or far outside. */
    private int number(int low, int high) {
        int kind = dice.nextInt(60);
        if (kind == 0) {
            return low - 1;
        }
        if (kind == 1) {
            return high + 1;
        }
        if (kind == 2) {
            return dice.nextBoolean() ? Integer.MIN_VALUE : Integer.MAX_VALUE;
        }
        if (kind < 6) {
            return dice.nextBoolean() ? low : high;
        }
        return low + dice.nextInt(Math.max(1, high - low + 1));
    }

    private int askedDay() {
        return early ? number(15, 120) : day();
    }

    private int day() {
        if (early && dice.nextInt(8) != 0) {
            return number(0, 25);
        }
        return dice.nextInt(3) == 0 ? number(0, 299) : number(0, 70);
    }

    private int wholes() {
        return dice.nextInt(early ? 40 : 4) == 0 ? number(1, 9999) : number(1, 60);
    }

    private int debt() {
        return number(0, Math.max(0, model.debts.size() - 1));
    }

    private int payment() {
        return number(0, Math.max(0, model.payments.size() - 1));
    }

    private int lawNumber() {
        return number(0, 1);
    }

    private String change() {
        switch (dice.nextInt(20)) {
            case 0: case 1: return debtCall();
            case 2: case 3: case 4: case 5: return setCall();
            case 6: case 7: return payCall();
            case 8: return paysCall();
            case 9: case 10: case 11: return wordCall();
            case 12: case 13: {
                int p = payment(), d = day();
                return same("move", real.move(p, d), model.move(p, d), p, d);
            }
            case 14: return typeCall();
            case 15: case 16: return lawCall();
            case 17: return imageCall();
            case 18: return sheetCall();
            default: return itemCalls();
        }
    }

    private String question() {
        switch (dice.nextInt(17)) {
            case 0: {
                int w = number(0, 3);
                return same("count", real.count(w), model.count(w), w);
            }
            case 1: {
                int l = lawNumber(), i = number(0, 10);
                return same("letter", real.letter(l, i), model.letter(l, i), l, i);
            }
            case 2: case 3: case 4: case 5: case 6: case 7: return singleQuestion();
            case 8: return bestCall();
            case 9: {
                int l = lawNumber(), p = payment(), day = askedDay();
                return same("answer", real.answer(l, p, day), model.answer(l, p, day), l, p, day);
            }
            case 10: return hangsCall();
            case 11: {
                int l = lawNumber(), wh = wholes(), day = day(), k = number(1, 60), w = number(0, 1);
                return same("plan", real.plan(l, wh, day, k, w), model.plan(l, wh, day, k, w), l, wh, day, k, w);
            }
            case 12: case 13: return same("parts", real.parts(), model.parts());
            case 14: {
                int day = askedDay();
                return same("gap", real.gap(day), model.gap(day), day);
            }
            default: return judgeCall();
        }
    }

    /** A question of what is left, which is a single call. */
    private String singleQuestion() {
        switch (dice.nextInt(10)) {
            case 0: case 1: {
                int l = lawNumber(), d = debt(), day = askedDay(), w = number(0, 2);
                return same("left", real.left(l, d, day, w), model.left(l, d, day, w), l, d, day, w);
            }
            case 2: {
                int l = lawNumber(), day = askedDay();
                return same("owed", real.owed(l, day), model.owed(l, day), l, day);
            }
            case 3: case 4: {
                int l = lawNumber(), p = payment(), d = dice.nextInt(4) == 0 ? -1 : debt(), w = number(0, 1);
                return same("put", real.put(l, p, d, w), model.put(l, p, d, w), l, p, d, w);
            }
            case 5: {
                int l = lawNumber(), d = debt();
                return same("paid", real.paid(l, d), model.paid(l, d), l, d);
            }
            case 6: {
                int l = lawNumber(), d = debt(), day = askedDay();
                return same("dead", real.dead(l, d, day), model.dead(l, d, day), l, d, day);
            }
            case 7: {
                int l = lawNumber(), d = debt();
                return same("wakes", real.wakes(l, d), model.wakes(l, d), l, d);
            }
            case 8: {
                int l = lawNumber(), p = number(0, 5);
                return same("free", real.free(l, p), model.free(l, p), l, p);
            }
            default: {
                int l = lawNumber(), day = askedDay(), i = number(0, 4);
                return same("rank", real.rank(l, day, i), model.rank(l, day, i), l, day, i);
            }
        }
    }

    private String debtCall() {
        int w = dice.nextInt(5) == 0 ? wholes() : number(20, 300), s = day(), d = day();
        int r = dice.nextInt(3) == 0 ? dice.nextInt(3) : number(0, 99);
        return same("debt", real.debt(w, s, d, r), model.debt(w, s, d, r), w, s, d, r);
    }

    private String setCall() {
        int d = debt(), w = number(0, 5);
        int v = w == 1 ? number(-1, 5) : w == 3 ? (dice.nextInt(4) != 0 ? number(0, 12) : number(0, 299))
            : w == 4 ? number(0, 99) : w == 5 ? day() : number(0, 1);
        return same("set", real.set(d, w, v), model.set(d, w, v), d, w, v);
    }

    private String payCall() {
        int d = day(), w = wholes();
        return same("pay", real.pay(d, w), model.pay(d, w), d, w);
    }

    private String paysCall() {
        int s = number(0, 3);
        int l = s >= 0 && s < 4 && dice.nextInt(5) != 0 ? model.laneOf(s) : number(0, 2);
        int f = number(0, 8), n = dice.nextBoolean() ? number(0, 2) : number(0, 12);
        for (int i = 0; i < Math.min(n, 3) && dice.nextInt(4) != 0; i++) {
            for (int k = f + 2 * i; k < f + 2 * i + 2; k++) {
                int v = number(1, 70);
                String fault = same("item", real.item(s, l, k, v), model.item(s, l, k, v), s, l, k, v);
                if (fault != null) {
                    return fault;
                }
            }
        }
        return same("pays", real.pays(s, l, f, n), model.pays(s, l, f, n), s, l, f, n);
    }

    private String wordCall() {
        int p = payment(), w = number(0, 1), d = dice.nextInt(5) == 0 ? -1 : debt();
        return same("word", real.word(p, w, d), model.word(p, w, d), p, w, d);
    }

    private String typeCall() {
        int n = number(1, 8);
        long w = 0;
        for (int i = 0; i < 8; i++) {
            int b = "ctsxpdhuol ".charAt(dice.nextInt(11));
            if (dice.nextInt(150) == 0) {
                b = dice.nextInt(256);
            }
            w = w << 8 | b;
        }
        return same("type", real.type(w, n), model.type(w, n), w, n);
    }

    /** Mostly a law without a fault, typed behind an empty tape. */
    private String lawCall() {
        if (dice.nextInt(4) != 0) {
            String emptied = same("law", real.law(0), model.law(0), 0);
            if (emptied != null) {
                return emptied;
            }
            List<Character> letters = new ArrayList<>();
            for (char c : "ctsxpdhuol".toCharArray()) {
                letters.add(c);
            }
            java.util.Collections.shuffle(letters, dice);
            if (dice.nextBoolean()) {
                letters.add(0, letters.remove(letters.indexOf(dice.nextBoolean() ? 'c' : 't')));
            }
            int n = 1 + dice.nextInt(6);
            for (int i = 0; i < n; i++) {
                long w = letters.get(i);
                String fault = same("type", real.type(w, 1), model.type(w, 1), w, 1);
                if (fault != null) {
                    return fault;
                }
            }
        }
        int l = lawNumber();
        return same("law", real.law(l), model.law(l), l);
    }

    private String bestCall() {
        int l = lawNumber(), n = number(1, dearCalls < 2 ? 3 : 2), day = askedDay();
        dearCalls++;
        long due = model.least(l, n, day);
        String fault = same("least", real.least(l, n, day), due, l, n, day);
        if (fault != null) {
            return fault;
        }
        int i = number(0, 2);
        return same("best", real.best(l, n, day, i), model.best(l, n, day, i), l, n, day, i);
    }

    private String hangsCall() {
        int l = lawNumber(), p = payment(), f = day(), t = dice.nextBoolean() ? day() : f + dice.nextInt(30);
        int day = askedDay(), w = number(0, 1);
        return same("hangs", real.hangs(l, p, f, t, day, w), model.hangs(l, p, f, t, day, w), l, p, f, t, day, w);
    }

    /** Mostly of a sheet that tells some debts rightly. */
    private String judgeCall() {
        int l = lawNumber(), day = askedDay(), s = number(0, 3), from = number(0, 4);
        int lane = s >= 0 && s < 4 && dice.nextInt(5) != 0 ? model.laneOf(s) : number(0, 2);
        int right = dice.nextInt(10);
        for (int d = 0; d < model.debts.size() && d < right; d++) {
            long left = Math.max(0, model.left(l, d, day, 2));
            int v = (int) (left / 10000);
            int i = from + d;
            String fault = same("item", real.item(s, lane, i, v), model.item(s, lane, i, v), s, lane, i, v);
            if (fault != null) {
                return fault;
            }
        }
        return same("judge", real.judge(l, day, s, lane, from), model.judge(l, day, s, lane, from), l, day, s, lane, from);
    }

    private String imageCall() {
        int kind = dice.nextInt(4);
        if (kind == 0) {
            return same("image", real.image(), model.image());
        }
        return kind == 1 ? same("restore", real.restore(), model.restore()) : null;
    }

    private String sheetCall() {
        int s = number(0, 3);
        if (dice.nextInt(5) == 0) {
            return same("drop", real.drop(s), model.drop(s), s);
        }
        int l = number(0, 2), n = number(0, 24);
        return same("sheet", real.sheet(s, l, n), model.sheet(s, l, n), s, l, n);
    }

    private String itemCalls() {
        for (int k = 0; k < 4; k++) {
            int s = number(0, 3), i = number(0, 12);
            int l = s >= 0 && s < 4 && dice.nextInt(5) != 0 ? model.laneOf(s) : number(0, 2);
            int v = dice.nextInt(4) == 0 ? dice.nextInt() : number(0, 200);
            String fault = same("item", real.item(s, l, i, v), model.item(s, l, i, v), s, l, i, v);
            if (fault != null) {
                return fault;
            }
        }
        return null;
    }

    private String same(String call, long got, long due, long... args) {
        StringBuilder text = new StringBuilder(call).append('(');
        for (int i = 0; i < args.length; i++) {
            text.append(i == 0 ? "" : ", ").append(args[i]);
        }
        text.append(')');
        String told = text.toString();
        this.told.add(told + "=" + due);
        return got == due ? null : told + " answered " + got + ", due is " + due;
    }
}
