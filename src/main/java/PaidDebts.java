import java.util.Arrays;

/**
 * Which debt he paid: debts, sums that come, and two laws that say to which debt each sum goes.
 * Every answer is found by going through the days anew, so nothing that is asked changes anything.
 */
public final class PaidDebts {
    public static final int BAD = -1, NOT = -2, FULL = -3, NONE = -4, NULL = -11, CAST = -12, INDEX = -13, SIZE = -14;

    /** Where -1 says "no debt", refusals stand this much lower. */
    private static final int BELOW_NO_DEBT = 100;
    /** A gap may be below 0, so its refusal stands below every gap. */
    private static final long BELOW_GAPS = 1000000000000L;

    private static final int LAST_DAY = 299;
    private static final int PARTS_OF_WHOLE = 10000;
    private static final int MOST_WHOLES = 9999;
    private static final int RATE_BASE = 10000;
    private static final int MOST_RATE = 99;
    private static final int MOST_DEBTS = 8;
    private static final int MOST_PAYMENTS = 12;
    private static final int MOST_PLEDGE = 5;
    private static final int LAWS = 2;
    private static final int MOST_CHOICES = 3;
    private static final int MOST_STEP = 60;
    private static final int NO_DEBT = -1;
    private static final int NEVER = -1;

    private static final int ITSELF = 0, PLEDGE = 1, STANDS = 2, TIME = 3, RATE = 4, DUE = 5, TRAITS = 6;
    private static final int[] LEAST_TRAIT = {0, -1, 0, 0, 0, 0};
    private static final int[] MOST_TRAIT = {1, MOST_PLEDGE, 1, LAST_DAY, MOST_RATE, LAST_DAY};

    private static final String LETTERS = "ctsxpdhuol";
    private static final int MOST_LETTERS = 10;
    private static final int FAULT = -20;
    private static final int TAPE_ROOM = 40;
    private static final int BYTES_OF_LONG = 8;
    private static final int BLANK = 32, LAST_SIGN = 126;

    private static final int SHEETS = 4;
    private static final int MOST_ITEMS = 24;
    private static final int LANE_BYTES = 0, LANE_SHORTS = 1, LANE_INTS = 2;

    private final Book book = new Book();
    private final Book kept = new Book();
    private boolean hasImage = false;
    private final Course course = new Course();
    private final Course otherCourse = new Course();
    private final WordSearch search = new WordSearch();
    private final Tape tape = new Tape();
    private final Sheet[] sheets = new Sheet[SHEETS];

    public PaidDebts() {
        for (int i = 0; i < SHEETS; i++) {
            sheets[i] = new Sheet();
        }
    }

    // ---- 1 debts, payments

    public int debt(int whole, int since, int due, int rate) {
        if (!within(whole, 1, MOST_WHOLES) || !isDay(since) || !isDay(due) || !within(rate, 0, MOST_RATE)) {
            return BAD;
        }
        if (book.debtCount >= MOST_DEBTS) {
            return FULL;
        }
        book.debts[book.debtCount].begin(whole, since, due, rate);
        book.debtCount++;
        return book.debtCount - 1;
    }

    public int set(int debt, int what, int v) {
        if (!isDebt(debt) || !within(what, 0, TRAITS - 1) || !within(v, LEAST_TRAIT[what], MOST_TRAIT[what])) {
            return BAD;
        }
        int[] traits = book.debts[debt].traits;
        int old = traits[what];
        traits[what] = v;
        return old;
    }

    public int pay(int day, int whole) {
        if (!isPayable(day, whole)) {
            return BAD;
        }
        if (book.paymentCount >= MOST_PAYMENTS) {
            return FULL;
        }
        book.addPayment(day, whole);
        return book.paymentCount - 1;
    }

    public int pays(int sheet, int lane, int from, int n) {
        if (!isSheet(sheet) || !isLane(lane) || !within(n, 0, MOST_PAYMENTS)) {
            return BAD;
        }
        int refusal = sheets[sheet].refusal(lane, from, 2 * n);
        if (refusal != 0) {
            return refusal;
        }
        int[] items = sheets[sheet].items;
        for (int i = 0; i < n; i++) {
            if (!isPayable(items[from + 2 * i], items[from + 2 * i + 1])) {
                return NOT;
            }
        }
        if (n > MOST_PAYMENTS - book.paymentCount) {
            return FULL;
        }
        for (int i = 0; i < n; i++) {
            book.addPayment(items[from + 2 * i], items[from + 2 * i + 1]);
        }
        return n;
    }

    public int word(int payment, int what, int debt) {
        if (!isPayment(payment) || !within(what, 0, 1) || !isDebtOrNone(debt)) {
            return BAD - BELOW_NO_DEBT;
        }
        Payment changed = book.payments[payment];
        int old = what == 0 ? changed.word : changed.answer;
        if (what == 0) {
            changed.word = debt;
        } else {
            changed.answer = debt;
        }
        return old;
    }

    public int move(int payment, int day) {
        if (!isPayment(payment) || !isDay(day)) {
            return BAD;
        }
        int old = book.payments[payment].day;
        book.payments[payment].day = day;
        return old;
    }

    public int count(int what) {
        switch (what) {
            case 0:
                return book.debtCount;
            case 1:
                return book.paymentCount;
            case 2:
                return book.debtsWithAtLeast(PLEDGE, 0);
            case 3:
                return book.debtsWithAtLeast(STANDS, 1);
            default:
                return BAD;
        }
    }

    // ---- 2 laws

    public int type(long w, int n) {
        if (!within(n, 1, BYTES_OF_LONG) || !allSigns(w, n)) {
            return BAD;
        }
        if (n > TAPE_ROOM - tape.length) {
            return FULL;
        }
        for (int i = n - 1; i >= 0; i--) {
            tape.append(byteOf(w, i));
        }
        return tape.length;
    }

    public int law(int law) {
        if (!isLaw(law)) {
            return BAD;
        }
        int fault = tape.fault();
        if (fault == 0) {
            book.laws[law].read(tape);
        }
        tape.length = 0;
        return fault == 0 ? book.laws[law].length : fault;
    }

    public int letter(int law, int i) {
        if (!isLaw(law) || i < 0) {
            return BAD;
        }
        Law asked = book.laws[law];
        return i < asked.length && i < MOST_LETTERS ? asked.letters[i] : NONE;
    }

    // ---- 3 what is left

    public long left(int law, int debt, int day, int what) {
        if (!isLaw(law) || !isDebt(debt) || !isDay(day) || !within(what, 0, 2)) {
            return BAD;
        }
        goBehind(law, day);
        return what == 0 ? course.sumLeft(debt) : what == 1 ? course.runLeft(debt) : course.leftOf(debt);
    }

    public long owed(int law, int day) {
        if (!isLaw(law) || !isDay(day)) {
            return BAD;
        }
        goBehind(law, day);
        return course.owedNow();
    }

    public long put(int law, int payment, int debt, int what) {
        if (!isLaw(law) || !isPayment(payment) || !isDebtOrNone(debt) || !within(what, 0, 1)) {
            return BAD;
        }
        course.start(book, law);
        course.takeUpTo(payment);
        if (debt == NO_DEBT) {
            return course.spare;
        }
        return what == 0 ? course.toSum[debt] : course.toRun[debt];
    }

    public int paid(int law, int debt) {
        if (!isLaw(law) || !isDebt(debt)) {
            return BAD;
        }
        goBehind(law, LAST_DAY);
        return dayOrNone(course.paidDay[debt]);
    }

    public int dead(int law, int debt, int day) {
        if (!isLaw(law) || !isDebt(debt) || !isDay(day)) {
            return BAD;
        }
        course.start(book, law);
        course.goAheadOf(day);
        course.findDead();
        return course.isDead[debt] ? 1 : 0;
    }

    public int wakes(int law, int debt) {
        if (!isLaw(law) || !isDebt(debt)) {
            return BAD;
        }
        goBehind(law, LAST_DAY);
        return dayOrNone(course.wakeDay[debt]);
    }

    public int free(int law, int pledge) {
        if (!isLaw(law) || !within(pledge, 0, MOST_PLEDGE)) {
            return BAD;
        }
        goBehind(law, LAST_DAY);
        int freeDay = NOT;
        for (int d = 0; d < book.debtCount; d++) {
            if (book.debts[d].traits[PLEDGE] == pledge) {
                if (course.paidDay[d] == NEVER) {
                    return NONE;
                }
                freeDay = Math.max(freeDay, course.paidDay[d]);
            }
        }
        return freeDay;
    }

    public int rank(int law, int day, int i) {
        if (!isLaw(law) || !isDay(day) || i < 0) {
            return BAD;
        }
        goBehind(law, day);
        course.findDead();
        int ranked = course.orderOpen();
        return i < ranked && i < MOST_DEBTS ? course.order[i] : NONE;
    }

    // ---- 4 what should have been

    public int best(int law, int n, int day, int i) {
        if (!isLaw(law) || !within(n, 1, MOST_CHOICES) || !isDay(day) || !within(i, 0, n - 1)) {
            return BAD - BELOW_NO_DEBT;
        }
        if (n > book.paymentCount) {
            return NOT - BELOW_NO_DEBT;
        }
        search.find(book, law, n, day);
        return search.found[i];
    }

    public long least(int law, int n, int day) {
        if (!isLaw(law) || !within(n, 1, MOST_CHOICES) || !isDay(day)) {
            return BAD;
        }
        if (n > book.paymentCount) {
            return NOT;
        }
        search.find(book, law, n, day);
        return search.leastOwed;
    }

    public int answer(int law, int payment, int day) {
        if (!isLaw(law) || !isPayment(payment) || !isDay(day)) {
            return BAD - BELOW_NO_DEBT;
        }
        long most = -1;
        int found = NO_DEBT;
        for (int debt = NO_DEBT; debt < book.debtCount; debt++) {
            course.start(book, law);
            course.book.payments[payment].answer = debt;
            course.goBehind(day);
            long owed = course.owedNow();
            if (owed > most) {
                most = owed;
                found = debt;
            }
        }
        return found;
    }

    public long hangs(int law, int payment, int from, int to, int day, int what) {
        if (!isLaw(law) || !isPayment(payment) || !isDay(from) || !isDay(to) || !isDay(day)
                || !within(what, 0, 1) || from > to) {
            return BAD;
        }
        // On every day behind the one asked for, the payment comes too late in the same way.
        int last = Math.min(to, Math.max(from, day + 1));
        long found = 0;
        for (int moved = from; moved <= last; moved++) {
            course.start(book, law);
            course.book.payments[payment].day = moved;
            course.goBehind(day);
            long owed = course.owedNow();
            if (moved == from) {
                found = owed;
            } else {
                found = what == 0 ? Math.min(found, owed) : Math.max(found, owed);
            }
        }
        return found;
    }

    public long plan(int law, int whole, int day, int each, int what) {
        if (!isLaw(law) || !isPayable(day, whole) || !within(each, 1, MOST_STEP) || !within(what, 0, 1)) {
            return BAD;
        }
        course.start(book, law);
        for (int next = day; next <= LAST_DAY; next += each) {
            course.goBehind(next);
            course.distribute((long) whole * PARTS_OF_WHOLE, NO_DEBT);
            if (course.owedNow() == 0) {
                return what == 0 ? next : course.spare;
            }
        }
        return NONE;
    }

    public int parts() {
        course.start(book, 0);
        otherCourse.start(book, 1);
        // What is left alike may be cut otherwise into sum and run, and then runs on unlike: no day can be passed over.
        for (int day = 0; day <= LAST_DAY; day++) {
            course.goBehind(day);
            otherCourse.goBehind(day);
            if (!course.isLeftAlike(otherCourse)) {
                return day;
            }
        }
        return NONE;
    }

    public long gap(int day) {
        if (!isDay(day)) {
            return BAD - BELOW_GAPS;
        }
        goBehind(1, day);
        long owedByOne = course.owedNow();
        goBehind(0, day);
        return owedByOne - course.owedNow();
    }

    public int judge(int law, int day, int sheet, int lane, int from) {
        if (!isLaw(law) || !isDay(day) || !isSheet(sheet) || !isLane(lane)) {
            return BAD;
        }
        int refusal = sheets[sheet].refusal(lane, from, book.debtCount);
        if (refusal != 0) {
            return refusal;
        }
        goBehind(law, day);
        for (int d = 0; d < book.debtCount; d++) {
            long wholes = course.leftOf(d) / PARTS_OF_WHOLE;
            if (sheets[sheet].items[from + d] != wholes) {
                return d;
            }
        }
        return NONE;
    }

    public int image() {
        kept.copyFrom(book);
        hasImage = true;
        return 1;
    }

    public int restore() {
        if (!hasImage) {
            return NONE;
        }
        book.copyFrom(kept);
        return 1;
    }

    // ---- 5 sheets

    public int sheet(int sheet, int lane, int n) {
        if (!isSheet(sheet) || !isLane(lane) || n > MOST_ITEMS) {
            return BAD;
        }
        if (n < 0) {
            return SIZE;
        }
        sheets[sheet].begin(lane, n);
        return n;
    }

    public int drop(int sheet) {
        if (!isSheet(sheet)) {
            return BAD;
        }
        if (!sheets[sheet].isThere) {
            return NULL;
        }
        sheets[sheet].isThere = false;
        return sheets[sheet].length;
    }

    public int item(int sheet, int lane, int i, int v) {
        if (!isSheet(sheet) || !isLane(lane)) {
            return BAD;
        }
        int refusal = sheets[sheet].refusal(lane, i, 1);
        if (refusal != 0) {
            return refusal;
        }
        sheets[sheet].write(i, v);
        return 1;
    }

    // ---- what the calls share

    private static boolean within(int v, int low, int high) {
        return v >= low && v <= high;
    }

    private static boolean isDay(int day) {
        return within(day, 0, LAST_DAY);
    }

    private static boolean isPayable(int day, int whole) {
        return isDay(day) && within(whole, 1, MOST_WHOLES);
    }

    private static boolean isLaw(int law) {
        return within(law, 0, LAWS - 1);
    }

    private static boolean isSheet(int sheet) {
        return within(sheet, 0, SHEETS - 1);
    }

    private static boolean isLane(int lane) {
        return within(lane, LANE_BYTES, LANE_INTS);
    }

    private boolean isDebt(int debt) {
        return within(debt, 0, book.debtCount - 1);
    }

    private boolean isDebtOrNone(int debt) {
        return debt == NO_DEBT || isDebt(debt);
    }

    private boolean isPayment(int payment) {
        return within(payment, 0, book.paymentCount - 1);
    }

    private static int dayOrNone(int day) {
        return day == NEVER ? NONE : day;
    }

    private static int byteOf(long w, int place) {
        return (int) (w >>> (8 * place)) & 255;
    }

    private static boolean allSigns(long w, int n) {
        for (int i = 0; i < n; i++) {
            if (!within(byteOf(w, i), BLANK, LAST_SIGN)) {
                return false;
            }
        }
        return true;
    }

    private void goBehind(int law, int day) {
        course.start(book, law);
        course.goBehind(day);
    }

    // ---- classes inside

    private static final class Debt {
        int whole;
        int since;
        /** By the numbers that the call set has: ITSELF, PLEDGE, STANDS, TIME, RATE, DUE. */
        final int[] traits = new int[TRAITS];

        void begin(int newWhole, int newSince, int due, int rate) {
            whole = newWhole;
            since = newSince;
            traits[ITSELF] = 0;
            traits[PLEDGE] = -1;
            traits[STANDS] = 0;
            traits[TIME] = 0;
            traits[RATE] = rate;
            traits[DUE] = due;
        }

        boolean isSecured() {
            return traits[PLEDGE] >= 0 || traits[STANDS] == 1;
        }

        void copyFrom(Debt other) {
            whole = other.whole;
            since = other.since;
            System.arraycopy(other.traits, 0, traits, 0, TRAITS);
        }
    }

    private static final class Payment {
        int day;
        int whole;
        int word = NO_DEBT;
        int answer = NO_DEBT;

        void copyFrom(Payment other) {
            day = other.day;
            whole = other.whole;
            word = other.word;
            answer = other.answer;
        }
    }

    private static final class Law {
        final int[] letters = new int[MOST_LETTERS];
        int length = 0;
        private int letterBits = 0;

        boolean has(int letter) {
            return (letterBits >> (letter - 'a') & 1) != 0;
        }

        /** Only for a tape without a fault. */
        void read(Tape tape) {
            length = 0;
            letterBits = 0;
            for (int i = 0; i < tape.length && length < MOST_LETTERS; i++) {
                if (tape.bytes[i] != BLANK) {
                    letters[length] = tape.bytes[i];
                    length++;
                    letterBits |= bitOf(tape.bytes[i]);
                }
            }
        }

        void copyFrom(Law other) {
            System.arraycopy(other.letters, 0, letters, 0, MOST_LETTERS);
            length = other.length;
            letterBits = other.letterBits;
        }

        static int bitOf(int letter) {
            return 1 << (letter - 'a');
        }
    }

    private static final class Tape {
        final int[] bytes = new int[TAPE_ROOM];
        int length = 0;

        void append(int b) {
            if (length < TAPE_ROOM) {
                bytes[length] = b;
                length++;
            }
        }

        /** 0: it can be a law. */
        int fault() {
            int seen = 0;
            for (int i = 0; i < length; i++) {
                int b = bytes[i];
                if (b != BLANK) {
                    if (LETTERS.indexOf((char) b) < 0 || (seen & Law.bitOf(b)) != 0) {
                        return FAULT - i;
                    }
                    seen |= Law.bitOf(b);
                }
            }
            return seen == 0 ? FAULT - length : 0;
        }
    }

    /** All that an image keeps. */
    private static final class Book {
        final Debt[] debts = new Debt[MOST_DEBTS];
        int debtCount = 0;
        final Payment[] payments = new Payment[MOST_PAYMENTS];
        int paymentCount = 0;
        final Law[] laws = new Law[LAWS];

        Book() {
            for (int i = 0; i < MOST_DEBTS; i++) {
                debts[i] = new Debt();
            }
            for (int i = 0; i < MOST_PAYMENTS; i++) {
                payments[i] = new Payment();
            }
            for (int i = 0; i < LAWS; i++) {
                laws[i] = new Law();
            }
        }

        void addPayment(int day, int whole) {
            if (paymentCount < MOST_PAYMENTS) {
                Payment added = payments[paymentCount];
                added.day = day;
                added.whole = whole;
                added.word = NO_DEBT;
                added.answer = NO_DEBT;
                paymentCount++;
            }
        }

        int debtsWithAtLeast(int trait, int bound) {
            int n = 0;
            for (int d = 0; d < debtCount; d++) {
                if (debts[d].traits[trait] >= bound) {
                    n++;
                }
            }
            return n;
        }

        void copyFrom(Book other) {
            debtCount = other.debtCount;
            for (int d = 0; d < debtCount; d++) {
                debts[d].copyFrom(other.debts[d]);
            }
            paymentCount = other.paymentCount;
            for (int p = 0; p < paymentCount; p++) {
                payments[p].copyFrom(other.payments[p]);
            }
            for (int i = 0; i < LAWS; i++) {
                laws[i].copyFrom(other.laws[i]);
            }
        }
    }

    /**
     * The way of debts through the days by one law. It stands on a day, to which all debts have run on, behind
     * that day's payments up to one.
     */
    private static final class Course {
        /** Its own, so that a question of "what if" may write in it. */
        final Book book = new Book();
        private final Law law = new Law();
        private int day = 0;
        /** The last payment of this day that was put. */
        private int lastTaken = -1;
        private final long[] sum = new long[MOST_DEBTS];
        private final long[] run = new long[MOST_DEBTS];
        private final int[] lastPutDay = new int[MOST_DEBTS];
        final int[] paidDay = new int[MOST_DEBTS];
        final int[] wakeDay = new int[MOST_DEBTS];
        final boolean[] isDead = new boolean[MOST_DEBTS];
        final int[] order = new int[MOST_DEBTS];
        /** What became of the payment that was put last. */
        final long[] toSum = new long[MOST_DEBTS];
        final long[] toRun = new long[MOST_DEBTS];
        long spare = 0;

        void start(Book from, int lawNumber) {
            book.copyFrom(from);
            law.copyFrom(from.laws[lawNumber]);
            day = 0;
            lastTaken = -1;
            spare = 0;
            for (int d = 0; d < book.debtCount; d++) {
                sum[d] = (long) book.debts[d].whole * PARTS_OF_WHOLE;
                run[d] = 0;
                lastPutDay[d] = NEVER;
                paidDay[d] = NEVER;
                wakeDay[d] = NEVER;
            }
        }

        /** Stands where another course stands that was started alike. */
        void standWith(Course other) {
            day = other.day;
            lastTaken = other.lastTaken;
            System.arraycopy(other.sum, 0, sum, 0, MOST_DEBTS);
            System.arraycopy(other.run, 0, run, 0, MOST_DEBTS);
            System.arraycopy(other.lastPutDay, 0, lastPutDay, 0, MOST_DEBTS);
            System.arraycopy(other.paidDay, 0, paidDay, 0, MOST_DEBTS);
            System.arraycopy(other.wakeDay, 0, wakeDay, 0, MOST_DEBTS);
        }

        // -- days

        void goAheadOf(int target) {
            goBehind(target - 1);
            runTo(target);
        }

        void goBehind(int target) {
            int next = nextPayment(target);
            for (int i = 0; i < MOST_PAYMENTS && next >= 0; i++) {
                take(next);
                next = nextPayment(target);
            }
            runTo(target);
        }

        void takeUpTo(int payment) {
            int next = nextPayment(LAST_DAY);
            for (int i = 0; i < MOST_PAYMENTS && next >= 0; i++) {
                take(next);
                next = next == payment ? -1 : nextPayment(LAST_DAY);
            }
        }

        /** The first payment that was not yet put and comes no later than a day; -1: none. */
        int nextPayment(int latest) {
            int next = -1;
            int nextDay = latest + 1;
            for (int p = 0; p < book.paymentCount; p++) {
                int comes = book.payments[p].day;
                boolean isAhead = comes > day || comes == day && p > lastTaken;
                if (isAhead && comes < nextDay) {
                    next = p;
                    nextDay = comes;
                }
            }
            return next;
        }

        void take(int payment) {
            Payment taken = book.payments[payment];
            runTo(taken.day);
            lastTaken = payment;
            distribute((long) taken.whole * PARTS_OF_WHOLE, chosenDebt(taken));
        }

        void runTo(int target) {
            if (target <= day) {
                return;
            }
            for (int d = 0; d < book.debtCount; d++) {
                runOn(d, target - Math.max(day, book.debts[d].since));
            }
            day = target;
            lastTaken = -1;
        }

        private void runOn(int d, int days) {
            int rate = book.debts[d].traits[RATE];
            if (days <= 0 || rate == 0) {
                return;
            }
            if (book.debts[d].traits[ITSELF] == 0) {
                run[d] += sum[d] * rate / RATE_BASE * days;
                return;
            }
            // The cut of each day keeps this from being told by one formula.
            long ran = run[d];
            for (int i = 0; i < days; i++) {
                ran += (sum[d] + ran) * rate / RATE_BASE;
            }
            run[d] = ran;
        }

        // -- what is left

        boolean isOpen(int d) {
            return d >= 0 && d < book.debtCount && book.debts[d].since <= day && sum[d] + run[d] > 0;
        }

        long sumLeft(int d) {
            return book.debts[d].since <= day ? sum[d] : 0;
        }

        long runLeft(int d) {
            return book.debts[d].since <= day ? run[d] : 0;
        }

        long leftOf(int d) {
            return sumLeft(d) + runLeft(d);
        }

        long owedNow() {
            long owed = 0;
            for (int d = 0; d < book.debtCount; d++) {
                owed += leftOf(d);
            }
            return owed;
        }

        boolean isLeftAlike(Course other) {
            for (int d = 0; d < book.debtCount; d++) {
                if (leftOf(d) != other.leftOf(d)) {
                    return false;
                }
            }
            return true;
        }

        void findDead() {
            for (int d = 0; d < book.debtCount; d++) {
                int time = book.debts[d].traits[TIME];
                int lastSign = Math.max(book.debts[d].traits[DUE], lastPutDay[d]);
                isDead[d] = time > 0 && day > lastSign + time && isOpen(d);
            }
        }

        // -- the order of debts

        /** How many debts may get something, which then stand in order. */
        int orderOpen() {
            int n = 0;
            boolean passesDead = law.has('x');
            for (int d = 0; d < book.debtCount; d++) {
                if (isOpen(d) && !(passesDead && isDead[d])) {
                    int place = n;
                    while (place > 0 && compareByKeys(d, order[place - 1]) < 0) {
                        order[place] = order[place - 1];
                        place--;
                    }
                    order[place] = d;
                    n++;
                }
            }
            return n;
        }

        private int compareByKeys(int a, int b) {
            Debt left = book.debts[a];
            Debt right = book.debts[b];
            for (int i = 0; i < law.length; i++) {
                int difference = 0;
                switch (law.letters[i]) {
                    case 'd':
                        difference = firstIf(left.traits[DUE] <= day, right.traits[DUE] <= day);
                        break;
                    case 'h':
                        difference = Integer.compare(right.traits[RATE], left.traits[RATE]);
                        break;
                    case 'u':
                        difference = firstIf(!left.isSecured(), !right.isSecured());
                        break;
                    case 'o':
                        difference = Integer.compare(left.since, right.since);
                        break;
                    case 'l':
                        difference = Long.compare(sum[b] + run[b], sum[a] + run[a]);
                        break;
                    default:
                        break;
                }
                if (difference != 0) {
                    return difference;
                }
            }
            return 0;
        }

        private static int firstIf(boolean left, boolean right) {
            return left == right ? 0 : left ? -1 : 1;
        }

        // -- to which debts a sum goes

        private int chosenDebt(Payment payment) {
            if (law.has('c') && isOpen(payment.word)) {
                return payment.word;
            }
            if (law.has('t') && isOpen(payment.answer)) {
                return payment.answer;
            }
            return NO_DEBT;
        }

        boolean heedsWord(int debt) {
            return law.has('c') && isOpen(debt);
        }

        void distribute(long amount, int chosen) {
            Arrays.fill(toSum, 0);
            Arrays.fill(toRun, 0);
            // Which debts are dead is found once, ahead of the sum, which would wake them.
            findDead();
            long over = amount;
            if (chosen != NO_DEBT) {
                over -= give(chosen, over);
            }
            int n = over > 0 ? orderOpen() : 0;
            boolean byParts = law.has('p');
            int end;
            for (int from = 0; from < n && over > 0; from = end) {
                end = from + 1;
                while (byParts && end < n && compareByKeys(order[from], order[end]) == 0) {
                    end++;
                }
                over = share(from, end, over);
            }
            spare = over;
        }

        /** Shares among debts that stand next to each other in order: what is over then. */
        private long share(int from, int end, long amount) {
            long all = 0;
            for (int i = from; i < end; i++) {
                all += sum[order[i]] + run[order[i]];
            }
            long over = amount;
            if (all > 0 && all > amount) {
                for (int i = from; i < end; i++) {
                    over -= give(order[i], amount * (sum[order[i]] + run[order[i]]) / all);
                }
            }
            for (int i = from; i < end; i++) {
                over -= give(order[i], over);
            }
            return over;
        }

        /** Gives a debt no more than is left of it: how much that was. */
        private long give(int d, long amount) {
            long given = Math.min(amount, sum[d] + run[d]);
            if (given <= 0) {
                return 0;
            }
            long givenToSum = law.has('s') ? Math.min(given, sum[d]) : given - Math.min(given, run[d]);
            sum[d] -= givenToSum;
            run[d] -= given - givenToSum;
            toSum[d] += givenToSum;
            toRun[d] += given - givenToSum;
            lastPutDay[d] = day;
            if (isDead[d] && wakeDay[d] == NEVER) {
                wakeDay[d] = day;
            }
            if (sum[d] + run[d] == 0) {
                paidDay[d] = day;
            }
            return given;
        }
    }

    /** Tries words for the first payments, in the order of their days, so that what comes ahead is gone through once. */
    private static final class WordSearch {
        final int[] found = new int[MOST_CHOICES];
        long leastOwed = 0;
        private boolean hasFound = false;
        private final int[] tried = new int[MOST_CHOICES];
        /** At i: behind i choices. */
        private final Course[] courses = new Course[MOST_CHOICES + 1];
        private int choices = 0;
        private int day = 0;

        WordSearch() {
            for (int i = 0; i <= MOST_CHOICES; i++) {
                courses[i] = new Course();
            }
        }

        void find(Book book, int law, int n, int newDay) {
            choices = n;
            day = newDay;
            hasFound = false;
            Arrays.fill(tried, NO_DEBT);
            for (int i = 0; i <= MOST_CHOICES; i++) {
                courses[i].start(book, law);
            }
            tryFrom(0);
        }

        private void tryFrom(int depth) {
            Course course = courses[depth];
            int next = course.nextPayment(day);
            for (int i = 0; i < MOST_PAYMENTS && next >= choices; i++) {
                course.take(next);
                next = course.nextPayment(day);
            }
            if (next < 0 || next >= choices || next >= MOST_CHOICES || depth >= MOST_CHOICES) {
                course.runTo(day);
                weigh(course.owedNow());
                return;
            }
            course.runTo(course.book.payments[next].day);
            Course further = courses[depth + 1];
            for (int debt = NO_DEBT; debt < course.book.debtCount; debt++) {
                // A word that does not count does what no word does, which stands ahead of it.
                if (debt == NO_DEBT || course.heedsWord(debt)) {
                    tried[next] = debt;
                    further.standWith(course);
                    further.book.payments[next].word = debt;
                    further.take(next);
                    tryFrom(depth + 1);
                }
            }
        }

        private void weigh(long owed) {
            if (!hasFound || owed < leastOwed || owed == leastOwed && isTriedAhead()) {
                hasFound = true;
                leastOwed = owed;
                System.arraycopy(tried, 0, found, 0, MOST_CHOICES);
            }
        }

        /** Days may bring the choices in another order than the payments' numbers. */
        private boolean isTriedAhead() {
            for (int i = 0; i < choices; i++) {
                if (tried[i] != found[i]) {
                    return tried[i] < found[i];
                }
            }
            return false;
        }
    }

    private static final class Sheet {
        boolean isThere = false;
        int length = 0;
        final int[] items = new int[MOST_ITEMS];
        private int lane = 0;

        void begin(int newLane, int n) {
            isThere = true;
            lane = newLane;
            length = n;
            Arrays.fill(items, 0);
        }

        /** Why n items from one on can't be taken as a row of a lane; 0: they can. */
        int refusal(int asLane, int from, int n) {
            if (!isThere) {
                return NULL;
            }
            if (asLane != lane) {
                return CAST;
            }
            return from < 0 || from > length - n ? INDEX : 0;
        }

        void write(int i, int v) {
            items[i] = lane == LANE_BYTES ? (byte) v : lane == LANE_SHORTS ? (short) v : v;
        }
    }
}
