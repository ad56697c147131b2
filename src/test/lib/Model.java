import java.util.ArrayList;
import java.util.Comparator;
import java.util.List;

/** The document once more, in its plainest form: it goes day by day, keeps everything, and tries everything. */
final class Model {
    List<ModelDebt> debts = new ArrayList<>();
    List<ModelPayment> payments = new ArrayList<>();
    String[] laws = {"", ""};
    String tape = "";
    Model kept = null;
    final Object[] sheets = new Object[4];

    static boolean in(long v, long low, long high) {
        return v >= low && v <= high;
    }

    boolean isDebt(int d) {
        return in(d, 0, debts.size() - 1);
    }

    boolean isPayment(int p) {
        return in(p, 0, payments.size() - 1);
    }

    static boolean isDay(int day) {
        return in(day, 0, 299);
    }

    Way way(int law, int until) {
        return new Way(debts, payments, laws[law], until, null);
    }

    int debt(int whole, int since, int due, int rate) {
        if (!in(whole, 1, 9999) || !isDay(since) || !isDay(due) || !in(rate, 0, 99)) {
            return -1;
        }
        if (debts.size() == 8) {
            return -3;
        }
        ModelDebt debt = new ModelDebt();
        debt.whole = whole;
        debt.since = since;
        debt.v[4] = rate;
        debt.v[5] = due;
        debts.add(debt);
        return debts.size() - 1;
    }

    int set(int debt, int what, int v) {
        if (!isDebt(debt) || !in(what, 0, 5)) {
            return -1;
        }
        boolean right = what == 0 || what == 2 ? in(v, 0, 1) : what == 1 ? in(v, -1, 5)
            : what == 4 ? in(v, 0, 99) : isDay(v);
        if (!right) {
            return -1;
        }
        int old = debts.get(debt).v[what];
        debts.get(debt).v[what] = v;
        return old;
    }

    int pay(int day, int whole) {
        if (!isDay(day) || !in(whole, 1, 9999)) {
            return -1;
        }
        if (payments.size() == 12) {
            return -3;
        }
        ModelPayment payment = new ModelPayment();
        payment.day = day;
        payment.whole = whole;
        payments.add(payment);
        return payments.size() - 1;
    }

    static int laneOfRow(Object row) {
        return row instanceof byte[] ? 0 : row instanceof short[] ? 1 : 2;
    }

    int laneOf(int sheet) {
        return laneOfRow(sheets[sheet]);
    }

    static int length(Object row) {
        return java.lang.reflect.Array.getLength(row);
    }

    static int at(Object row, int i) {
        return java.lang.reflect.Array.getInt(row, i);
    }

    int refusal(int sheet, int lane, long from, long n) {
        if (sheets[sheet] == null) {
            return -11;
        }
        if (laneOf(sheet) != lane) {
            return -12;
        }
        return from < 0 || from + n > length(sheets[sheet]) ? -13 : 0;
    }

    int pays(int sheet, int lane, int from, int n) {
        if (!in(sheet, 0, 3) || !in(lane, 0, 2) || !in(n, 0, 12)) {
            return -1;
        }
        int refusal = refusal(sheet, lane, from, 2L * n);
        if (refusal != 0) {
            return refusal;
        }
        for (int i = 0; i < n; i++) {
            if (!isDay(at(sheets[sheet], from + 2 * i)) || !in(at(sheets[sheet], from + 2 * i + 1), 1, 9999)) {
                return -2;
            }
        }
        if (payments.size() + n > 12) {
            return -3;
        }
        for (int i = 0; i < n; i++) {
            pay(at(sheets[sheet], from + 2 * i), at(sheets[sheet], from + 2 * i + 1));
        }
        return n;
    }

    int word(int payment, int what, int debt) {
        if (!isPayment(payment) || !in(what, 0, 1) || debt != -1 && !isDebt(debt)) {
            return -101;
        }
        ModelPayment p = payments.get(payment);
        int old = what == 0 ? p.word : p.answer;
        if (what == 0) {
            p.word = debt;
        } else {
            p.answer = debt;
        }
        return old;
    }

    int move(int payment, int day) {
        if (!isPayment(payment) || !isDay(day)) {
            return -1;
        }
        int old = payments.get(payment).day;
        payments.get(payment).day = day;
        return old;
    }

    int count(int what) {
        switch (what) {
            case 0: return debts.size();
            case 1: return payments.size();
            case 2: return (int) debts.stream().filter(d -> d.v[1] != -1).count();
            case 3: return (int) debts.stream().filter(d -> d.v[2] == 1).count();
            default: return -1;
        }
    }

    int type(long w, int n) {
        if (!in(n, 1, 8)) {
            return -1;
        }
        String more = "";
        for (int i = 0; i < n; i++) {
            int b = (int) (w & 255);
            w >>= 8;
            if (!in(b, 32, 126)) {
                return -1;
            }
            more = (char) b + more;
        }
        if (tape.length() + n > 40) {
            return -3;
        }
        tape += more;
        return tape.length();
    }

    int law(int law) {
        if (!in(law, 0, 1)) {
            return -1;
        }
        String text = tape;
        tape = "";
        String letters = "";
        for (int i = 0; i < text.length(); i++) {
            char c = text.charAt(i);
            if (c == ' ') {
                continue;
            }
            if ("ctsxpdhuol".indexOf(c) < 0 || letters.indexOf(c) >= 0) {
                return -20 - i;
            }
            letters += c;
        }
        if (letters.isEmpty()) {
            return -20 - text.length();
        }
        laws[law] = letters;
        return letters.length();
    }

    int letter(int law, int i) {
        if (!in(law, 0, 1) || i < 0) {
            return -1;
        }
        return i < laws[law].length() ? laws[law].charAt(i) : -4;
    }

    long left(int law, int debt, int day, int what) {
        if (!in(law, 0, 1) || !isDebt(debt) || !isDay(day) || !in(what, 0, 2)) {
            return -1;
        }
        Way way = way(law, day);
        long sum = way.sumBehind[day][debt], run = way.runBehind[day][debt];
        return what == 0 ? sum : what == 1 ? run : sum + run;
    }

    long owed(int law, int day) {
        return in(law, 0, 1) && isDay(day) ? way(law, day).owedOn(day) : -1;
    }

    long put(int law, int payment, int debt, int what) {
        if (!in(law, 0, 1) || !isPayment(payment) || debt != -1 && !isDebt(debt) || !in(what, 0, 1)) {
            return -1;
        }
        Way way = way(law, 299);
        return debt == -1 ? way.spare[payment] : way.put[payment][debt][what];
    }

    int paid(int law, int debt) {
        if (!in(law, 0, 1) || !isDebt(debt)) {
            return -1;
        }
        Way way = way(law, 299);
        for (int day = debts.get(debt).since; day < 300; day++) {
            if (way.sumBehind[day][debt] == 0 && way.runBehind[day][debt] == 0) {
                return day;
            }
        }
        return -4;
    }

    int dead(int law, int debt, int day) {
        if (!in(law, 0, 1) || !isDebt(debt) || !isDay(day)) {
            return -1;
        }
        return way(law, day).deadAhead[day][debt] ? 1 : 0;
    }

    int wakes(int law, int debt) {
        return in(law, 0, 1) && isDebt(debt) ? way(law, 299).wakes[debt] : -1;
    }

    int free(int law, int pledge) {
        if (!in(law, 0, 1) || !in(pledge, 0, 5)) {
            return -1;
        }
        if (debts.stream().noneMatch(d -> d.v[1] == pledge)) {
            return -2;
        }
        Way way = way(law, 299);
        int first = 300;
        for (int day = 299; day >= 0 && first == day + 1; day--) {
            boolean bound = false;
            for (int d = 0; d < debts.size(); d++) {
                bound |= debts.get(d).v[1] == pledge
                    && (day < debts.get(d).since || way.sumBehind[day][d] + way.runBehind[day][d] > 0);
            }
            if (!bound) {
                first = day;
            }
        }
        return first == 300 ? -4 : first;
    }

    int rank(int law, int day, int i) {
        if (!in(law, 0, 1) || !isDay(day) || i < 0) {
            return -1;
        }
        List<Integer> ranked = way(law, day).ranked(day);
        return i < ranked.size() ? ranked.get(i) : -4;
    }

    /** At 0 what is owed, behind it the words. */
    long[] search(int law, int n, int day) {
        int[] old = new int[n];
        for (int i = 0; i < n; i++) {
            old[i] = payments.get(i).word;
        }
        int base = debts.size() + 1;
        int all = (int) Math.pow(base, n);
        long[] best = null;
        for (int code = 0; code < all; code++) {
            int rest = code;
            for (int i = n - 1; i >= 0; i--) {
                payments.get(i).word = rest % base - 1;
                rest /= base;
            }
            long owed = owed(law, day);
            if (best == null || owed < best[0]) {
                best = new long[n + 1];
                best[0] = owed;
                for (int i = 0; i < n; i++) {
                    best[i + 1] = payments.get(i).word;
                }
            }
        }
        for (int i = 0; i < n; i++) {
            payments.get(i).word = old[i];
        }
        return best;
    }

    int best(int law, int n, int day, int i) {
        if (!in(law, 0, 1) || !in(n, 1, 3) || !isDay(day) || !in(i, 0, n - 1)) {
            return -101;
        }
        return n > payments.size() ? -102 : (int) search(law, n, day)[i + 1];
    }

    long least(int law, int n, int day) {
        if (!in(law, 0, 1) || !in(n, 1, 3) || !isDay(day)) {
            return -1;
        }
        return n > payments.size() ? -2 : search(law, n, day)[0];
    }

    int answer(int law, int payment, int day) {
        if (!in(law, 0, 1) || !isPayment(payment) || !isDay(day)) {
            return -101;
        }
        int old = payments.get(payment).answer;
        long most = -1;
        int best = -1;
        for (int d = -1; d < debts.size(); d++) {
            payments.get(payment).answer = d;
            long owed = owed(law, day);
            if (owed > most) {
                most = owed;
                best = d;
            }
        }
        payments.get(payment).answer = old;
        return best;
    }

    long hangs(int law, int payment, int from, int to, int day, int what) {
        if (!in(law, 0, 1) || !isPayment(payment) || !isDay(from) || !isDay(to) || from > to || !isDay(day)
                || !in(what, 0, 1)) {
            return -1;
        }
        int old = payments.get(payment).day;
        long least = Long.MAX_VALUE, most = Long.MIN_VALUE;
        for (int d = from; d <= to; d++) {
            payments.get(payment).day = d;
            long owed = owed(law, day);
            least = Math.min(least, owed);
            most = Math.max(most, owed);
        }
        payments.get(payment).day = old;
        return what == 0 ? least : most;
    }

    long plan(int law, int whole, int day, int each, int what) {
        if (!in(law, 0, 1) || !in(whole, 1, 9999) || !isDay(day) || !in(each, 1, 60) || !in(what, 0, 1)) {
            return -1;
        }
        Way way = new Way(debts, payments, laws[law], 299, new int[] {whole, day, each});
        return what == 0 ? way.planDay : way.planSpare;
    }

    int parts() {
        Way a = way(0, 299), b = way(1, 299);
        for (int day = 0; day < 300; day++) {
            for (int d = 0; d < debts.size(); d++) {
                if (a.sumBehind[day][d] + a.runBehind[day][d] != b.sumBehind[day][d] + b.runBehind[day][d]) {
                    return day;
                }
            }
        }
        return -4;
    }

    long gap(int day) {
        return isDay(day) ? owed(1, day) - owed(0, day) : -1000000000001L;
    }

    int judge(int law, int day, int sheet, int lane, int from) {
        if (!in(law, 0, 1) || !isDay(day) || !in(sheet, 0, 3) || !in(lane, 0, 2)) {
            return -1;
        }
        int refusal = refusal(sheet, lane, from, debts.size());
        if (refusal != 0) {
            return refusal;
        }
        for (int d = 0; d < debts.size(); d++) {
            if (left(law, d, day, 2) / 10000 != at(sheets[sheet], from + d)) {
                return d;
            }
        }
        return -4;
    }

    void take(Model other) {
        debts = new ArrayList<>();
        other.debts.forEach(d -> debts.add(d.copy()));
        payments = new ArrayList<>();
        other.payments.forEach(p -> payments.add(p.copy()));
        laws = other.laws.clone();
    }

    int image() {
        kept = new Model();
        kept.take(this);
        return 1;
    }

    int restore() {
        if (kept == null) {
            return -4;
        }
        take(kept);
        return 1;
    }

    int sheet(int sheet, int lane, int n) {
        if (!in(sheet, 0, 3) || !in(lane, 0, 2) || n > 24) {
            return -1;
        }
        if (n < 0) {
            return -14;
        }
        sheets[sheet] = lane == 0 ? new byte[n] : lane == 1 ? new short[n] : (Object) new int[n];
        return n;
    }

    int drop(int sheet) {
        if (!in(sheet, 0, 3)) {
            return -1;
        }
        if (sheets[sheet] == null) {
            return -11;
        }
        int n = length(sheets[sheet]);
        sheets[sheet] = null;
        return n;
    }

    int item(int sheet, int lane, int i, int v) {
        if (!in(sheet, 0, 3) || !in(lane, 0, 2)) {
            return -1;
        }
        int refusal = refusal(sheet, lane, i, 1);
        if (refusal != 0) {
            return refusal;
        }
        if (sheets[sheet] instanceof byte[] row) {
            row[i] = (byte) v;
        } else if (sheets[sheet] instanceof short[] row) {
            row[i] = (short) v;
        } else {
            ((int[]) sheets[sheet])[i] = v;
        }
        return 1;
    }

    private static final class ModelDebt {
        int whole, since;
        int[] v = {0, -1, 0, 0, 0, 0};

        ModelDebt copy() {
            ModelDebt c = new ModelDebt();
            c.whole = whole;
            c.since = since;
            c.v = v.clone();
            return c;
        }
    }

    private static final class ModelPayment {
        int day, whole, word = -1, answer = -1;

        ModelPayment copy() {
            ModelPayment c = new ModelPayment();
            c.day = day;
            c.whole = whole;
            c.word = word;
            c.answer = answer;
            return c;
        }
    }

    /** Goes day by day and keeps everything. */
    private static final class Way {
        final List<ModelDebt> debts;
        final String law;
        final long[][] sumBehind = new long[300][8], runBehind = new long[300][8];
        final boolean[][] deadAhead = new boolean[300][8];
        final long[][][] put = new long[12][8][2];
        final long[] spare = new long[12];
        final int[] wakes = {-4, -4, -4, -4, -4, -4, -4, -4};
        final long[] sum = new long[8], run = new long[8];
        final int[] last = {-1, -1, -1, -1, -1, -1, -1, -1};
        int planDay = -4;
        long planSpare = -4;

        Way(List<ModelDebt> debts, List<ModelPayment> payments, String law, int until, int[] plan) {
            this.debts = debts;
            this.law = law;
            for (int day = 0; day <= until; day++) {
                for (int d = 0; d < debts.size(); d++) {
                    ModelDebt debt = debts.get(d);
                    if (day == debt.since) {
                        sum[d] = debt.whole * 10000L;
                    } else if (day > debt.since) {
                        long base = debt.v[0] == 1 ? sum[d] + run[d] : sum[d];
                        run[d] += base * debt.v[4] / 10000;
                    }
                    deadAhead[day][d] = dead(d, day);
                }
                for (int p = 0; p < payments.size(); p++) {
                    if (payments.get(p).day == day) {
                        spare[p] = take(payments.get(p), day, put[p]);
                    }
                }
                sumBehind[day] = sum.clone();
                runBehind[day] = run.clone();
                if (plan != null && day >= plan[1] && (day - plan[1]) % plan[2] == 0) {
                    ModelPayment extra = new ModelPayment();
                    extra.whole = plan[0];
                    long over = take(extra, day, new long[8][2]);
                    long owed = 0;
                    for (int d = 0; d < 8; d++) {
                        owed += sum[d] + run[d];
                    }
                    if (owed == 0) {
                        planDay = day;
                        planSpare = over;
                        return;
                    }
                }
            }
        }

        boolean has(char letter) {
            return law.indexOf(letter) >= 0;
        }

        boolean open(int d, int day) {
            return d >= 0 && d < debts.size() && day >= debts.get(d).since && sum[d] + run[d] > 0;
        }

        boolean dead(int d, int day) {
            int[] v = debts.get(d).v;
            return open(d, day) && v[3] != 0 && day - Math.max(v[5], last[d]) > v[3];
        }

        Comparator<Integer> keys(int day) {
            Comparator<Integer> all = (a, b) -> 0;
            for (char c : law.toCharArray()) {
                if (c == 'd') {
                    all = all.thenComparing(d -> debts.get(d).v[5] <= day ? 0 : 1);
                } else if (c == 'h') {
                    all = all.thenComparing(d -> -debts.get(d).v[4]);
                } else if (c == 'u') {
                    all = all.thenComparing(d -> debts.get(d).v[1] == -1 && debts.get(d).v[2] == 0 ? 0 : 1);
                } else if (c == 'o') {
                    all = all.thenComparing(d -> debts.get(d).since);
                } else if (c == 'l') {
                    all = all.thenComparing(d -> -(sum[d] + run[d]));
                }
            }
            return all;
        }

        List<Integer> ranked(int day) {
            List<Integer> ranked = new ArrayList<>();
            for (int d = 0; d < debts.size(); d++) {
                if (open(d, day) && !(has('x') && dead(d, day))) {
                    ranked.add(d);
                }
            }
            ranked.sort(keys(day));
            return ranked;
        }

        long take(ModelPayment payment, int day, long[][] record) {
            long over = payment.whole * 10000L;
            boolean[] wasDead = new boolean[8];
            for (int d = 0; d < debts.size(); d++) {
                wasDead[d] = dead(d, day);
            }
            int first = -1;
            if (has('c') && open(payment.word, day)) {
                first = payment.word;
            } else if (has('t') && open(payment.answer, day)) {
                first = payment.answer;
            }
            long[] gets = new long[8];
            List<Integer> ranked = ranked(day);
            Comparator<Integer> keys = keys(day);
            if (first >= 0) {
                gets[first] = Math.min(over, sum[first] + run[first]);
                over -= gets[first];
                ranked.remove(Integer.valueOf(first));
            }
            while (!ranked.isEmpty()) {
                List<Integer> like = new ArrayList<>();
                like.add(ranked.remove(0));
                while (has('p') && !ranked.isEmpty() && keys.compare(like.get(0), ranked.get(0)) == 0) {
                    like.add(ranked.remove(0));
                }
                over = give(like, over, gets);
            }
            for (int d = 0; d < 8; d++) {
                if (gets[d] > 0) {
                    long toRun = has('s') ? Math.max(0, gets[d] - sum[d]) : Math.min(run[d], gets[d]);
                    record[d][1] = toRun;
                    record[d][0] = gets[d] - toRun;
                    run[d] -= toRun;
                    sum[d] -= gets[d] - toRun;
                    last[d] = day;
                    if (wasDead[d] && wakes[d] == -4) {
                        wakes[d] = day;
                    }
                }
            }
            return over;
        }

        long give(List<Integer> like, long over, long[] gets) {
            long all = 0;
            for (int d : like) {
                all += sum[d] + run[d];
            }
            if (all <= over) {
                for (int d : like) {
                    gets[d] = sum[d] + run[d];
                }
                return over - all;
            }
            long rest = over;
            for (int d : like) {
                gets[d] = over * (sum[d] + run[d]) / all;
                rest -= gets[d];
            }
            for (int d : like) {
                long more = Math.min(rest, sum[d] + run[d] - gets[d]);
                gets[d] += more;
                rest -= more;
            }
            return rest;
        }

        long owedOn(int day) {
            long owed = 0;
            for (int d = 0; d < 8; d++) {
                owed += sumBehind[day][d] + runBehind[day][d];
            }
            return owed;
        }
    }
}
