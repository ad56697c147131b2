import java.util.ArrayList;
import java.util.Comparator;
import java.util.List;
import java.util.Random;

/** Long runs of calls by a seeded dice; each answer is compared with that of a plain model that goes day by day. */
public final class RandomRunsTest {
    private static final int RUNS = 200;
    private static final int ROUNDS = 400;
    /** An object has 512 calls; a round makes a dozen at most. */
    private static final int CALLS = 500;

    private final Random dice;
    private final PaidDebts real = new PaidDebts();
    private final Model model = new Model();
    private final List<String> told = new ArrayList<>();
    /** Whether debts and payments come early and questions are of later days, so that much hangs on each choice. */
    private final boolean early;
    private int dearCalls = 0;

    private RandomRunsTest(long seed) {
        dice = new Random(seed);
        early = dice.nextInt(3) != 0;
    }

    public static void main(String[] args) {
        int wrong = 0;
        for (int run = 0; run < RUNS && wrong < 5; run++) {
            RandomRunsTest test = new RandomRunsTest(run);
            for (int i = 0; i < ROUNDS && test.told.size() < CALLS; i++) {
                String fault = test.call();
                if (fault != null) {
                    wrong++;
                    System.out.println("run " + run + ": " + fault + " behind " + test.told);
                    break;
                }
            }
        }
        System.out.println(wrong == 0 ? "all random runs are as due" : wrong + " random runs are not as due");
        if (wrong != 0) {
            System.exit(1);
        }
    }

    /** From low to high; now and then one that is just or far outside. */
    private int number(int low, int high) {
        int kind = dice.nextInt(60);
        if (kind == 0) {
            return low - 1;
        }
        if (kind == 1) {
            return high + 1;
        }
        if (kind == 2) {
            return dice.nextBoolean() ? Integer.MIN_VALUE : Integer.MAX_VALUE;
        }
        if (kind < 6) {
            return dice.nextBoolean() ? low : high;
        }
        return low + dice.nextInt(Math.max(1, high - low + 1));
    }

    private int askedDay() {
        return early ? number(15, 120) : day();
    }

    private int day() {
        if (early && dice.nextInt(8) != 0) {
            return number(0, 25);
        }
        return dice.nextInt(3) == 0 ? number(0, 299) : number(0, 70);
    }

    private int wholes() {
        return dice.nextInt(early ? 40 : 4) == 0 ? number(1, 9999) : number(1, 60);
    }

    private int debt() {
        return number(0, Math.max(0, model.debts.size() - 1));
    }

    private int payment() {
        return number(0, Math.max(0, model.payments.size() - 1));
    }

    private int lawNumber() {
        return number(0, 1);
    }

    private String call() {
        switch (dice.nextInt(40)) {
            case 0: case 1: return debtCall();
            case 2: case 3: case 4: case 5: return setCall();
            case 6: case 7: return payCall();
            case 8: return paysCall();
            case 9: case 10: case 11: return wordCall();
            case 12: {
                int p = payment(), d = day();
                return same("move", real.move(p, d), model.move(p, d), p, d);
            }
            case 13: {
                int w = number(0, 3);
                return same("count", real.count(w), model.count(w), w);
            }
            case 14: case 15: return typeCall();
            case 16: case 17: return lawCall();
            case 18: {
                int l = lawNumber(), i = number(0, 10);
                return same("letter", real.letter(l, i), model.letter(l, i), l, i);
            }
            case 19: case 20: {
                int l = lawNumber(), d = debt(), day = askedDay(), w = number(0, 2);
                return same("left", real.left(l, d, day, w), model.left(l, d, day, w), l, d, day, w);
            }
            case 21: {
                int l = lawNumber(), day = askedDay();
                return same("owed", real.owed(l, day), model.owed(l, day), l, day);
            }
            case 22: case 23: {
                int l = lawNumber(), p = payment(), d = dice.nextInt(4) == 0 ? -1 : debt(), w = number(0, 1);
                return same("put", real.put(l, p, d, w), model.put(l, p, d, w), l, p, d, w);
            }
            case 24: {
                int l = lawNumber(), d = debt();
                return same("paid", real.paid(l, d), model.paid(l, d), l, d);
            }
            case 25: {
                int l = lawNumber(), d = debt(), day = askedDay();
                return same("dead", real.dead(l, d, day), model.dead(l, d, day), l, d, day);
            }
            case 26: {
                int l = lawNumber(), d = debt();
                return same("wakes", real.wakes(l, d), model.wakes(l, d), l, d);
            }
            case 27: {
                int l = lawNumber(), p = number(0, 5);
                return same("free", real.free(l, p), model.free(l, p), l, p);
            }
            case 28: {
                int l = lawNumber(), day = askedDay(), i = number(0, 4);
                return same("rank", real.rank(l, day, i), model.rank(l, day, i), l, day, i);
            }
            case 29: return bestCall();
            case 30: {
                int l = lawNumber(), p = payment(), day = askedDay();
                return same("answer", real.answer(l, p, day), model.answer(l, p, day), l, p, day);
            }
            case 31: return hangsCall();
            case 32: {
                int l = lawNumber(), wh = wholes(), day = day(), k = number(1, 60), w = number(0, 1);
                return same("plan", real.plan(l, wh, day, k, w), model.plan(l, wh, day, k, w), l, wh, day, k, w);
            }
            case 33: return same("parts", real.parts(), model.parts());
            case 34: {
                int day = askedDay();
                return same("gap", real.gap(day), model.gap(day), day);
            }
            case 35: return judgeCall();
            case 36: return imageCall();
            case 37: {
                int s = number(0, 3), l = number(0, 2), n = number(0, 24);
                return same("sheet", real.sheet(s, l, n), model.sheet(s, l, n), s, l, n);
            }
            case 38: {
                if (dice.nextInt(4) != 0) {
                    return null;
                }
                int s = number(0, 3);
                return same("drop", real.drop(s), model.drop(s), s);
            }
            default: return itemCalls();
        }
    }

    private String debtCall() {
        int w = dice.nextInt(5) == 0 ? wholes() : number(20, 300), s = day(), d = day(), r = dice.nextInt(3) == 0 ? dice.nextInt(3) : number(0, 99);
        return same("debt", real.debt(w, s, d, r), model.debt(w, s, d, r), w, s, d, r);
    }

    private String setCall() {
        int d = debt(), w = number(0, 5);
        int v = w == 1 ? number(-1, 5) : w == 3 ? (dice.nextInt(4) != 0 ? number(0, 12) : number(0, 299))
            : w == 4 ? number(0, 99) : w == 5 ? day() : number(0, 1);
        return same("set", real.set(d, w, v), model.set(d, w, v), d, w, v);
    }

    private String payCall() {
        int d = day(), w = wholes();
        return same("pay", real.pay(d, w), model.pay(d, w), d, w);
    }

    private String paysCall() {
        int s = number(0, 3);
        int l = s >= 0 && s < 4 && dice.nextInt(5) != 0 ? model.laneOf(s) : number(0, 2);
        int f = number(0, 8), n = dice.nextBoolean() ? number(0, 2) : number(0, 12);
        for (int i = 0; i < Math.min(n, 3) && dice.nextInt(4) != 0; i++) {
            for (int k = f + 2 * i; k < f + 2 * i + 2; k++) {
                int v = number(1, 70);
                String fault = same("item", real.item(s, l, k, v), model.item(s, l, k, v), s, l, k, v);
                if (fault != null) {
                    return fault;
                }
            }
        }
        return same("pays", real.pays(s, l, f, n), model.pays(s, l, f, n), s, l, f, n);
    }

    private String wordCall() {
        int p = payment(), w = number(0, 1), d = dice.nextInt(5) == 0 ? -1 : debt();
        return same("word", real.word(p, w, d), model.word(p, w, d), p, w, d);
    }

    private String typeCall() {
        int n = number(1, 8);
        long w = 0;
        for (int i = 0; i < 8; i++) {
            int b = "ctsxpdhuol ".charAt(dice.nextInt(11));
            if (dice.nextInt(150) == 0) {
                b = dice.nextInt(256);
            }
            w = w << 8 | b;
        }
        return same("type", real.type(w, n), model.type(w, n), w, n);
    }

    /** Mostly a law without a fault, typed behind an empty tape. */
    private String lawCall() {
        if (dice.nextInt(4) != 0) {
            String emptied = same("law", real.law(0), model.law(0), 0);
            if (emptied != null) {
                return emptied;
            }
            List<Character> letters = new ArrayList<>();
            for (char c : "ctsxpdhuol".toCharArray()) {
                letters.add(c);
            }
            java.util.Collections.shuffle(letters, dice);
            if (dice.nextBoolean()) {
                letters.add(0, letters.remove(letters.indexOf(dice.nextBoolean() ? 'c' : 't')));
            }
            int n = 1 + dice.nextInt(6);
            for (int i = 0; i < n; i++) {
                long w = letters.get(i);
                String fault = same("type", real.type(w, 1), model.type(w, 1), w, 1);
                if (fault != null) {
                    return fault;
                }
            }
        }
        int l = lawNumber();
        return same("law", real.law(l), model.law(l), l);
    }

    private String bestCall() {
        int l = lawNumber(), n = number(1, dearCalls < 2 ? 3 : 2), day = askedDay();
        dearCalls++;
        long due = model.least(l, n, day);
        String fault = same("least", real.least(l, n, day), due, l, n, day);
        if (fault != null) {
            return fault;
        }
        int i = number(0, 2);
        return same("best", real.best(l, n, day, i), model.best(l, n, day, i), l, n, day, i);
    }

    private String hangsCall() {
        int l = lawNumber(), p = payment(), f = day(), t = dice.nextBoolean() ? day() : f + dice.nextInt(30);
        int day = askedDay(), w = number(0, 1);
        return same("hangs", real.hangs(l, p, f, t, day, w), model.hangs(l, p, f, t, day, w), l, p, f, t, day, w);
    }

    /** Mostly of a sheet that tells some debts rightly. */
    private String judgeCall() {
        int l = lawNumber(), day = askedDay(), s = number(0, 3), from = number(0, 4);
        int lane = s >= 0 && s < 4 && dice.nextInt(5) != 0 ? model.laneOf(s) : number(0, 2);
        int right = dice.nextInt(10);
        for (int d = 0; d < model.debts.size() && d < right; d++) {
            long left = Math.max(0, model.left(l, d, day, 2));
            int v = (int) (left / 10000);
            String fault = same("item", real.item(s, lane, from + d, v), model.item(s, lane, from + d, v), s, lane, from + d, v);
            if (fault != null) {
                return fault;
            }
        }
        return same("judge", real.judge(l, day, s, lane, from), model.judge(l, day, s, lane, from), l, day, s, lane, from);
    }

    private String imageCall() {
        int kind = dice.nextInt(6);
        if (kind == 0) {
            return same("image", real.image(), model.image());
        }
        return kind == 1 ? same("restore", real.restore(), model.restore()) : null;
    }

    private String itemCalls() {
        for (int k = 0; k < 4; k++) {
            int s = number(0, 3), i = number(0, 12);
            int l = s >= 0 && s < 4 && dice.nextInt(5) != 0 ? model.laneOf(s) : number(0, 2);
            int v = dice.nextInt(4) == 0 ? dice.nextInt() : number(0, 200);
            String fault = same("item", real.item(s, l, i, v), model.item(s, l, i, v), s, l, i, v);
            if (fault != null) {
                return fault;
            }
        }
        return null;
    }

    private String same(String call, long got, long due, long... args) {
        StringBuilder text = new StringBuilder(call).append('(');
        for (int i = 0; i < args.length; i++) {
            text.append(i == 0 ? "" : ", ").append(args[i]);
        }
        text.append(')');
        String told = text.toString();
        this.told.add(told + "=" + due);
        return got == due ? null : told + " answered " + got + ", due is " + due;
    }

    // ---- the model

    private static final class ModelDebt {
        int whole, since;
        int[] v = {0, -1, 0, 0, 0, 0};

        ModelDebt copy() {
            ModelDebt c = new ModelDebt();
            c.whole = whole;
            c.since = since;
            c.v = v.clone();
            return c;
        }
    }

    private static final class ModelPayment {
        int day, whole, word = -1, answer = -1;

        ModelPayment copy() {
            ModelPayment c = new ModelPayment();
            c.day = day;
            c.whole = whole;
            c.word = word;
            c.answer = answer;
            return c;
        }
    }

    /** Goes day by day and keeps everything. */
    private static final class Way {
        final List<ModelDebt> debts;
        final String law;
        final long[][] sumBehind = new long[300][8], runBehind = new long[300][8];
        final boolean[][] deadAhead = new boolean[300][8];
        final int[][] lastBehind = new int[300][8];
        final long[][][] put = new long[12][8][2];
        final long[] spare = new long[12];
        final int[] wakes = {-4, -4, -4, -4, -4, -4, -4, -4};
        final long[] sum = new long[8], run = new long[8];
        final int[] last = {-1, -1, -1, -1, -1, -1, -1, -1};
        int planDay = -4;
        long planSpare = -4;

        Way(List<ModelDebt> debts, List<ModelPayment> payments, String law, int until, int[] plan) {
            this.debts = debts;
            this.law = law;
            for (int day = 0; day <= until; day++) {
                for (int d = 0; d < debts.size(); d++) {
                    ModelDebt debt = debts.get(d);
                    if (day == debt.since) {
                        sum[d] = debt.whole * 10000L;
                    } else if (day > debt.since) {
                        long base = debt.v[0] == 1 ? sum[d] + run[d] : sum[d];
                        run[d] += base * debt.v[4] / 10000;
                    }
                    deadAhead[day][d] = dead(d, day);
                }
                for (int p = 0; p < payments.size(); p++) {
                    if (payments.get(p).day == day) {
                        spare[p] = take(payments.get(p), day, put[p]);
                    }
                }
                sumBehind[day] = sum.clone();
                runBehind[day] = run.clone();
                lastBehind[day] = last.clone();
                if (plan != null && day >= plan[1] && (day - plan[1]) % plan[2] == 0) {
                    ModelPayment extra = new ModelPayment();
                    extra.whole = plan[0];
                    long over = take(extra, day, new long[8][2]);
                    long owed = 0;
                    for (int d = 0; d < 8; d++) {
                        owed += sum[d] + run[d];
                    }
                    if (owed == 0) {
                        planDay = day;
                        planSpare = over;
                        return;
                    }
                }
            }
        }

        boolean has(char letter) {
            return law.indexOf(letter) >= 0;
        }

        boolean open(int d, int day) {
            return d >= 0 && d < debts.size() && day >= debts.get(d).since && sum[d] + run[d] > 0;
        }

        boolean dead(int d, int day) {
            int[] v = debts.get(d).v;
            return open(d, day) && v[3] != 0 && day - Math.max(v[5], last[d]) > v[3];
        }

        Comparator<Integer> keys(int day) {
            Comparator<Integer> all = (a, b) -> 0;
            for (char c : law.toCharArray()) {
                if (c == 'd') {
                    all = all.thenComparing(d -> debts.get(d).v[5] <= day ? 0 : 1);
                } else if (c == 'h') {
                    all = all.thenComparing(d -> -debts.get(d).v[4]);
                } else if (c == 'u') {
                    all = all.thenComparing(d -> debts.get(d).v[1] == -1 && debts.get(d).v[2] == 0 ? 0 : 1);
                } else if (c == 'o') {
                    all = all.thenComparing(d -> debts.get(d).since);
                } else if (c == 'l') {
                    all = all.thenComparing(d -> -(sum[d] + run[d]));
                }
            }
            return all;
        }

        List<Integer> ranked(int day) {
            List<Integer> ranked = new ArrayList<>();
            for (int d = 0; d < debts.size(); d++) {
                if (open(d, day) && !(has('x') && dead(d, day))) {
                    ranked.add(d);
                }
            }
            ranked.sort(keys(day));
            return ranked;
        }

        long take(ModelPayment payment, int day, long[][] record) {
            long over = payment.whole * 10000L;
            boolean[] wasDead = new boolean[8];
            for (int d = 0; d < debts.size(); d++) {
                wasDead[d] = dead(d, day);
            }
            int first = -1;
            if (has('c') && open(payment.word, day)) {
                first = payment.word;
            } else if (has('t') && open(payment.answer, day)) {
                first = payment.answer;
            }
            long[] gets = new long[8];
            List<Integer> ranked = ranked(day);
            Comparator<Integer> keys = keys(day);
            if (first >= 0) {
                gets[first] = Math.min(over, sum[first] + run[first]);
                over -= gets[first];
                ranked.remove(Integer.valueOf(first));
            }
            while (!ranked.isEmpty()) {
                List<Integer> like = new ArrayList<>();
                like.add(ranked.remove(0));
                while (has('p') && !ranked.isEmpty() && keys.compare(like.get(0), ranked.get(0)) == 0) {
                    like.add(ranked.remove(0));
                }
                over = give(like, over, gets);
            }
            for (int d = 0; d < 8; d++) {
                if (gets[d] > 0) {
                    long toRun = has('s') ? Math.max(0, gets[d] - sum[d]) : Math.min(run[d], gets[d]);
                    record[d][1] = toRun;
                    record[d][0] = gets[d] - toRun;
                    run[d] -= toRun;
                    sum[d] -= gets[d] - toRun;
                    last[d] = day;
                    if (wasDead[d] && wakes[d] == -4) {
                        wakes[d] = day;
                    }
                }
            }
            return over;
        }

        long give(List<Integer> like, long over, long[] gets) {
            long all = 0;
            for (int d : like) {
                all += sum[d] + run[d];
            }
            if (all <= over) {
                for (int d : like) {
                    gets[d] = sum[d] + run[d];
                }
                return over - all;
            }
            long rest = over;
            for (int d : like) {
                gets[d] = over * (sum[d] + run[d]) / all;
                rest -= gets[d];
            }
            for (int d : like) {
                long more = Math.min(rest, sum[d] + run[d] - gets[d]);
                gets[d] += more;
                rest -= more;
            }
            return rest;
        }

        long owedOn(int day) {
            long owed = 0;
            for (int d = 0; d < 8; d++) {
                owed += sumBehind[day][d] + runBehind[day][d];
            }
            return owed;
        }
    }

    private static final class Model {
        List<ModelDebt> debts = new ArrayList<>();
        List<ModelPayment> payments = new ArrayList<>();
        String[] laws = {"", ""};
        String tape = "";
        Model kept = null;
        final Object[] sheets = new Object[4];

        static boolean in(long v, long low, long high) {
            return v >= low && v <= high;
        }

        boolean isDebt(int d) {
            return in(d, 0, debts.size() - 1);
        }

        boolean isPayment(int p) {
            return in(p, 0, payments.size() - 1);
        }

        static boolean isDay(int day) {
            return in(day, 0, 299);
        }

        Way way(int law, int until) {
            return new Way(debts, payments, laws[law], until, null);
        }

        int debt(int whole, int since, int due, int rate) {
            if (!in(whole, 1, 9999) || !isDay(since) || !isDay(due) || !in(rate, 0, 99)) {
                return -1;
            }
            if (debts.size() == 8) {
                return -3;
            }
            ModelDebt debt = new ModelDebt();
            debt.whole = whole;
            debt.since = since;
            debt.v[4] = rate;
            debt.v[5] = due;
            debts.add(debt);
            return debts.size() - 1;
        }

        int set(int debt, int what, int v) {
            if (!isDebt(debt) || !in(what, 0, 5)) {
                return -1;
            }
            boolean right = what == 0 || what == 2 ? in(v, 0, 1) : what == 1 ? in(v, -1, 5)
                : what == 4 ? in(v, 0, 99) : isDay(v);
            if (!right) {
                return -1;
            }
            int old = debts.get(debt).v[what];
            debts.get(debt).v[what] = v;
            return old;
        }

        int pay(int day, int whole) {
            if (!isDay(day) || !in(whole, 1, 9999)) {
                return -1;
            }
            if (payments.size() == 12) {
                return -3;
            }
            ModelPayment payment = new ModelPayment();
            payment.day = day;
            payment.whole = whole;
            payments.add(payment);
            return payments.size() - 1;
        }

        static int laneOfRow(Object row) {
            return row instanceof byte[] ? 0 : row instanceof short[] ? 1 : 2;
        }

        int laneOf(int sheet) {
            return laneOfRow(sheets[sheet]);
        }

        static int length(Object row) {
            return java.lang.reflect.Array.getLength(row);
        }

        static int at(Object row, int i) {
            return java.lang.reflect.Array.getInt(row, i);
        }

        int refusal(int sheet, int lane, long from, long n) {
            if (sheets[sheet] == null) {
                return -11;
            }
            if (laneOf(sheet) != lane) {
                return -12;
            }
            return from < 0 || from + n > length(sheets[sheet]) ? -13 : 0;
        }

        int pays(int sheet, int lane, int from, int n) {
            if (!in(sheet, 0, 3) || !in(lane, 0, 2) || !in(n, 0, 12)) {
                return -1;
            }
            int refusal = refusal(sheet, lane, from, 2L * n);
            if (refusal != 0) {
                return refusal;
            }
            for (int i = 0; i < n; i++) {
                if (!isDay(at(sheets[sheet], from + 2 * i)) || !in(at(sheets[sheet], from + 2 * i + 1), 1, 9999)) {
                    return -2;
                }
            }
            if (payments.size() + n > 12) {
                return -3;
            }
            for (int i = 0; i < n; i++) {
                pay(at(sheets[sheet], from + 2 * i), at(sheets[sheet], from + 2 * i + 1));
            }
            return n;
        }

        int word(int payment, int what, int debt) {
            if (!isPayment(payment) || !in(what, 0, 1) || debt != -1 && !isDebt(debt)) {
                return -101;
            }
            ModelPayment p = payments.get(payment);
            int old = what == 0 ? p.word : p.answer;
            if (what == 0) {
                p.word = debt;
            } else {
                p.answer = debt;
            }
            return old;
        }

        int move(int payment, int day) {
            if (!isPayment(payment) || !isDay(day)) {
                return -1;
            }
            int old = payments.get(payment).day;
            payments.get(payment).day = day;
            return old;
        }

        int count(int what) {
            switch (what) {
                case 0: return debts.size();
                case 1: return payments.size();
                case 2: return (int) debts.stream().filter(d -> d.v[1] != -1).count();
                case 3: return (int) debts.stream().filter(d -> d.v[2] == 1).count();
                default: return -1;
            }
        }

        int type(long w, int n) {
            if (!in(n, 1, 8)) {
                return -1;
            }
            String more = "";
            for (int i = 0; i < n; i++) {
                int b = (int) (w & 255);
                w >>= 8;
                if (!in(b, 32, 126)) {
                    return -1;
                }
                more = (char) b + more;
            }
            if (tape.length() + n > 40) {
                return -3;
            }
            tape += more;
            return tape.length();
        }

        int law(int law) {
            if (!in(law, 0, 1)) {
                return -1;
            }
            String text = tape;
            tape = "";
            String letters = "";
            for (int i = 0; i < text.length(); i++) {
                char c = text.charAt(i);
                if (c == ' ') {
                    continue;
                }
                if ("ctsxpdhuol".indexOf(c) < 0 || letters.indexOf(c) >= 0) {
                    return -20 - i;
                }
                letters += c;
            }
            if (letters.isEmpty()) {
                return -20 - text.length();
            }
            laws[law] = letters;
            return letters.length();
        }

        int letter(int law, int i) {
            if (!in(law, 0, 1) || i < 0) {
                return -1;
            }
            return i < laws[law].length() ? laws[law].charAt(i) : -4;
        }

        long left(int law, int debt, int day, int what) {
            if (!in(law, 0, 1) || !isDebt(debt) || !isDay(day) || !in(what, 0, 2)) {
                return -1;
            }
            Way way = way(law, day);
            long sum = way.sumBehind[day][debt], run = way.runBehind[day][debt];
            return what == 0 ? sum : what == 1 ? run : sum + run;
        }

        long owed(int law, int day) {
            return in(law, 0, 1) && isDay(day) ? way(law, day).owedOn(day) : -1;
        }

        long put(int law, int payment, int debt, int what) {
            if (!in(law, 0, 1) || !isPayment(payment) || debt != -1 && !isDebt(debt) || !in(what, 0, 1)) {
                return -1;
            }
            Way way = way(law, 299);
            return debt == -1 ? way.spare[payment] : way.put[payment][debt][what];
        }

        int paid(int law, int debt) {
            if (!in(law, 0, 1) || !isDebt(debt)) {
                return -1;
            }
            Way way = way(law, 299);
            for (int day = debts.get(debt).since; day < 300; day++) {
                if (way.sumBehind[day][debt] == 0 && way.runBehind[day][debt] == 0) {
                    return day;
                }
            }
            return -4;
        }

        int dead(int law, int debt, int day) {
            if (!in(law, 0, 1) || !isDebt(debt) || !isDay(day)) {
                return -1;
            }
            return way(law, day).deadAhead[day][debt] ? 1 : 0;
        }

        int wakes(int law, int debt) {
            return in(law, 0, 1) && isDebt(debt) ? way(law, 299).wakes[debt] : -1;
        }

        int free(int law, int pledge) {
            if (!in(law, 0, 1) || !in(pledge, 0, 5)) {
                return -1;
            }
            if (debts.stream().noneMatch(d -> d.v[1] == pledge)) {
                return -2;
            }
            Way way = way(law, 299);
            int first = 300;
            for (int day = 299; day >= 0 && first == day + 1; day--) {
                boolean bound = false;
                for (int d = 0; d < debts.size(); d++) {
                    bound |= debts.get(d).v[1] == pledge
                        && (day < debts.get(d).since || way.sumBehind[day][d] + way.runBehind[day][d] > 0);
                }
                if (!bound) {
                    first = day;
                }
            }
            return first == 300 ? -4 : first;
        }

        int rank(int law, int day, int i) {
            if (!in(law, 0, 1) || !isDay(day) || i < 0) {
                return -1;
            }
            List<Integer> ranked = way(law, day).ranked(day);
            return i < ranked.size() ? ranked.get(i) : -4;
        }

        /** At 0 what is owed, behind it the words. */
        long[] search(int law, int n, int day) {
            int[] old = new int[n];
            for (int i = 0; i < n; i++) {
                old[i] = payments.get(i).word;
            }
            int base = debts.size() + 1;
            int all = (int) Math.pow(base, n);
            long[] best = null;
            for (int code = 0; code < all; code++) {
                int rest = code;
                for (int i = n - 1; i >= 0; i--) {
                    payments.get(i).word = rest % base - 1;
                    rest /= base;
                }
                long owed = owed(law, day);
                if (best == null || owed < best[0]) {
                    best = new long[n + 1];
                    best[0] = owed;
                    for (int i = 0; i < n; i++) {
                        best[i + 1] = payments.get(i).word;
                    }
                }
            }
            for (int i = 0; i < n; i++) {
                payments.get(i).word = old[i];
            }
            return best;
        }

        int best(int law, int n, int day, int i) {
            if (!in(law, 0, 1) || !in(n, 1, 3) || !isDay(day) || !in(i, 0, n - 1)) {
                return -101;
            }
            return n > payments.size() ? -102 : (int) search(law, n, day)[i + 1];
        }

        long least(int law, int n, int day) {
            if (!in(law, 0, 1) || !in(n, 1, 3) || !isDay(day)) {
                return -1;
            }
            return n > payments.size() ? -2 : search(law, n, day)[0];
        }

        int answer(int law, int payment, int day) {
            if (!in(law, 0, 1) || !isPayment(payment) || !isDay(day)) {
                return -101;
            }
            int old = payments.get(payment).answer;
            long most = -1;
            int best = -1;
            for (int d = -1; d < debts.size(); d++) {
                payments.get(payment).answer = d;
                long owed = owed(law, day);
                if (owed > most) {
                    most = owed;
                    best = d;
                }
            }
            payments.get(payment).answer = old;
            return best;
        }

        long hangs(int law, int payment, int from, int to, int day, int what) {
            if (!in(law, 0, 1) || !isPayment(payment) || !isDay(from) || !isDay(to) || from > to || !isDay(day)
                    || !in(what, 0, 1)) {
                return -1;
            }
            int old = payments.get(payment).day;
            long least = Long.MAX_VALUE, most = Long.MIN_VALUE;
            for (int d = from; d <= to; d++) {
                payments.get(payment).day = d;
                long owed = owed(law, day);
                least = Math.min(least, owed);
                most = Math.max(most, owed);
            }
            payments.get(payment).day = old;
            return what == 0 ? least : most;
        }

        long plan(int law, int whole, int day, int each, int what) {
            if (!in(law, 0, 1) || !in(whole, 1, 9999) || !isDay(day) || !in(each, 1, 60) || !in(what, 0, 1)) {
                return -1;
            }
            Way way = new Way(debts, payments, laws[law], 299, new int[] {whole, day, each});
            return what == 0 ? way.planDay : way.planSpare;
        }

        int parts() {
            Way a = way(0, 299), b = way(1, 299);
            for (int day = 0; day < 300; day++) {
                for (int d = 0; d < debts.size(); d++) {
                    if (a.sumBehind[day][d] + a.runBehind[day][d] != b.sumBehind[day][d] + b.runBehind[day][d]) {
                        return day;
                    }
                }
            }
            return -4;
        }

        long gap(int day) {
            return isDay(day) ? owed(1, day) - owed(0, day) : -1000000000001L;
        }

        int judge(int law, int day, int sheet, int lane, int from) {
            if (!in(law, 0, 1) || !isDay(day) || !in(sheet, 0, 3) || !in(lane, 0, 2)) {
                return -1;
            }
            int refusal = refusal(sheet, lane, from, debts.size());
            if (refusal != 0) {
                return refusal;
            }
            for (int d = 0; d < debts.size(); d++) {
                if (left(law, d, day, 2) / 10000 != at(sheets[sheet], from + d)) {
                    return d;
                }
            }
            return -4;
        }

        void take(Model other) {
            debts = new ArrayList<>();
            other.debts.forEach(d -> debts.add(d.copy()));
            payments = new ArrayList<>();
            other.payments.forEach(p -> payments.add(p.copy()));
            laws = other.laws.clone();
        }

        int image() {
            kept = new Model();
            kept.take(this);
            return 1;
        }

        int restore() {
            if (kept == null) {
                return -4;
            }
            take(kept);
            return 1;
        }

        int sheet(int sheet, int lane, int n) {
            if (!in(sheet, 0, 3) || !in(lane, 0, 2) || n > 24) {
                return -1;
            }
            if (n < 0) {
                return -14;
            }
            sheets[sheet] = lane == 0 ? new byte[n] : lane == 1 ? new short[n] : (Object) new int[n];
            return n;
        }

        int drop(int sheet) {
            if (!in(sheet, 0, 3)) {
                return -1;
            }
            if (sheets[sheet] == null) {
                return -11;
            }
            int n = length(sheets[sheet]);
            sheets[sheet] = null;
            return n;
        }

        int item(int sheet, int lane, int i, int v) {
            if (!in(sheet, 0, 3) || !in(lane, 0, 2)) {
                return -1;
            }
            int refusal = refusal(sheet, lane, i, 1);
            if (refusal != 0) {
                return refusal;
            }
            if (sheets[sheet] instanceof byte[] row) {
                row[i] = (byte) v;
            } else if (sheets[sheet] instanceof short[] row) {
                row[i] = (short) v;
            } else {
                ((int[]) sheets[sheet])[i] = v;
            }
            return 1;
        }
    }
}
