/**
 * Each number that a call takes: at its least and its greatest, one below and one above, and as far below and above as
 * numbers go. What is refused, and what is only asked, changes nothing.
 */
public final class BoundsTest extends Checks {
    private interface Call {
        long with(PaidDebts x, int v);
    }

    /** What a number outside of its bounds is answered with. */
    private record Refusal(long below, long above) {
    }

    private static final Refusal BAD = new Refusal(-1, -1);
    private static final Refusal BAD_OR_WORD = new Refusal(-101, -101);
    private static final Refusal BAD_OR_GAP = new Refusal(-1000000000001L, -1000000000001L);
    private static final Refusal BAD_OR_NONE = new Refusal(-1, -4);
    private static final Refusal INDEX = new Refusal(-13, -13);
    private static final Refusal SIZE_OR_BAD = new Refusal(-14, -1);

    private static final String AS_IT_STOOD = Stand.read(Stand.made());

    public static void main(String[] args) {
        debts();
        traits();
        payments();
        words();
        laws();
        whatIsLeft();
        daysOfDebts();
        choices();
        hangs();
        plan();
        judge();
        sheets();
        end("all bounds are kept");
    }

    /** A call that changes something: its answers at the bounds, and what it refuses. */
    private static void act(String name, Call call, int least, long atLeast, int greatest, long atGreatest, Refusal out) {
        due(name + " at its least", call.with(Stand.made(), least), atLeast);
        due(name + " at its greatest", call.with(Stand.made(), greatest), atGreatest);
        same(name + " one below", call, least - 1, out.below());
        same(name + " one above", call, greatest + 1, out.above());
        same(name + " far below", call, Integer.MIN_VALUE, out.below());
        same(name + " far above", call, Integer.MAX_VALUE, out.above());
    }

    /** A call that only asks. */
    private static void ask(String name, Call call, int least, long atLeast, int greatest, long atGreatest, Refusal out) {
        act(name, call, least, atLeast, greatest, atGreatest, out);
        same(name + " asked at its least", call, least, atLeast);
        same(name + " asked at its greatest", call, greatest, atGreatest);
    }

    private static void same(String name, Call call, int v, long answer) {
        PaidDebts x = Stand.made();
        due(name, call.with(x, v), answer);
        dueText(name + ": what stands", Stand.read(x), AS_IT_STOOD);
    }

    private static void debts() {
        act("2 whole", (x, v) -> x.debt(v, 5, 5, 5), 1, 3, 9999, 3, BAD);
        act("2 since", (x, v) -> x.debt(5, v, 5, 5), 0, 3, 299, 3, BAD);
        act("2 due", (x, v) -> x.debt(5, 5, v, 5), 0, 3, 299, 3, BAD);
        act("2 rate", (x, v) -> x.debt(5, 5, 5, v), 0, 3, 99, 3, BAD);
        ask("8 what", (x, v) -> x.count(v), 0, 3, 3, 1, BAD);
    }

    private static void traits() {
        act("3 debt", (x, v) -> x.set(v, 3, 1), 0, 25, 2, 15, BAD);
        act("3 what", (x, v) -> x.set(0, v, 1), 0, 0, 5, 10, BAD);
        act("3 upon itself", (x, v) -> x.set(2, 0, v), 0, 0, 1, 0, BAD);
        act("3 pledge", (x, v) -> x.set(2, 1, v), -1, 5, 5, 5, BAD);
        act("3 stands", (x, v) -> x.set(2, 2, v), 0, 1, 1, 1, BAD);
        act("3 time", (x, v) -> x.set(2, 3, v), 0, 15, 299, 15, BAD);
        act("3 rate", (x, v) -> x.set(2, 4, v), 0, 10, 99, 10, BAD);
        act("3 due", (x, v) -> x.set(2, 5, v), 0, 30, 299, 30, BAD);
    }

    private static void payments() {
        act("4 day", (x, v) -> x.pay(v, 5), 0, 3, 299, 3, BAD);
        act("4 whole", (x, v) -> x.pay(5, v), 1, 3, 9999, 3, BAD);
        act("5 sheet", (x, v) -> x.pays(v, 2, 0, 1), 0, 1, 3, 1, BAD);
        act("5 lane", (x, v) -> x.pays(0, v, 0, 1), 0, -12, 2, 1, BAD);
        act("5 from", (x, v) -> x.pays(0, 2, v, 1), 0, 1, 3, 1, INDEX);
        act("5 n", (x, v) -> x.pays(0, 2, 0, v), 0, 0, 12, -13, BAD);
        act("7 payment", (x, v) -> x.move(v, 5), 0, 20, 2, 60, BAD);
        act("7 day", (x, v) -> x.move(0, v), 0, 20, 299, 20, BAD);
    }

    private static void words() {
        act("6 payment", (x, v) -> x.word(v, 0, 0), 0, 1, 2, -1, BAD_OR_WORD);
        act("6 what", (x, v) -> x.word(1, v, 0), 0, -1, 1, 2, BAD_OR_WORD);
        act("6 debt of a word", (x, v) -> x.word(0, 0, v), -1, 1, 2, 1, BAD_OR_WORD);
        act("6 debt of an answer", (x, v) -> x.word(1, 1, v), -1, 2, 2, 2, BAD_OR_WORD);
    }

    private static void laws() {
        act("9 n", (x, v) -> x.type(0x6868686868686868L, v), 1, 4, 8, 11, BAD);
        act("9 byte", (x, v) -> x.type(v, 1), 32, 4, 126, 4, BAD);
        act("9 highest byte of two", (x, v) -> x.type(v * 256L + 'h', 2), 32, 5, 126, 5, BAD);
        act("10 law", (x, v) -> x.law(v), 0, 2, 1, 2, BAD);
        ask("11 law", (x, v) -> x.letter(v, 0), 0, 'c', 1, 't', BAD);
        ask("11 i", (x, v) -> x.letter(1, v), 0, 't', 2, 'h', BAD_OR_NONE);
    }

    private static void whatIsLeft() {
        ask("12 law", (x, v) -> x.left(v, 2, 40, 0), 0, 2000000, 1, 1500000, BAD);
        ask("12 debt", (x, v) -> x.left(0, v, 20, 2), 0, 1000000, 2, 2020000, BAD);
        ask("12 day", (x, v) -> x.left(0, 2, v, 2), 0, 0, 299, 2578000, BAD);
        ask("12 what", (x, v) -> x.left(0, 2, 20, v), 0, 2000000, 2, 2020000, BAD);
        ask("13 law", (x, v) -> x.owed(v, 299), 0, 3328000, 1, 3180550, BAD);
        ask("13 day", (x, v) -> x.owed(0, v), 0, 1000000, 299, 3328000, BAD);
        ask("14 law", (x, v) -> x.put(v, 1, 2, 0), 0, 0, 1, 200000, BAD);
        ask("14 payment", (x, v) -> x.put(0, v, 0, 0), 0, 0, 2, 50000, BAD);
        ask("14 debt", (x, v) -> x.put(1, 1, v, 0), -1, 0, 2, 200000, BAD);
        ask("14 what", (x, v) -> x.put(0, 2, 0, v), 0, 50000, 1, 0, BAD);
        ask("14 what of spare", (x, v) -> x.put(0, 2, -1, v), 0, 0, 1, 0, BAD);
    }

    private static void daysOfDebts() {
        ask("15 law", (x, v) -> x.paid(v, 1), 0, 20, 1, -4, BAD);
        ask("15 debt", (x, v) -> x.paid(0, v), 0, -4, 2, -4, BAD);
        ask("16 law", (x, v) -> x.dead(v, 2, 50), 0, 1, 1, 0, BAD);
        ask("16 debt", (x, v) -> x.dead(0, v, 50), 0, 0, 2, 1, BAD);
        ask("16 day", (x, v) -> x.dead(0, 2, v), 0, 0, 299, 1, BAD);
        ask("17 law", (x, v) -> x.wakes(v, 0), 0, 40, 1, -4, BAD);
        ask("17 debt", (x, v) -> x.wakes(1, v), 0, -4, 2, 60, BAD);
        ask("18 law", (x, v) -> x.free(v, 0), 0, 20, 1, -4, BAD);
        ask("18 pledge", (x, v) -> x.free(0, v), 0, 20, 5, -4, BAD);
        ask("19 law", (x, v) -> x.rank(v, 20, 1), 0, 2, 1, 0, BAD);
        ask("19 day", (x, v) -> x.rank(0, v, 1), 0, -4, 299, 2, BAD);
        ask("19 i", (x, v) -> x.rank(0, 20, v), 0, 0, 1, 2, BAD_OR_NONE);
    }

    private static void choices() {
        ask("20 law", (x, v) -> x.best(v, 1, 100, 0), 0, 2, 1, -1, BAD_OR_WORD);
        ask("20 n", (x, v) -> x.best(0, v, 100, 0), 1, 2, 3, 2, BAD_OR_WORD);
        ask("20 day", (x, v) -> x.best(0, 1, v, 0), 0, -1, 299, 2, BAD_OR_WORD);
        ask("20 i of one", (x, v) -> x.best(0, 1, 100, v), 0, 2, 0, 2, BAD_OR_WORD);
        ask("20 i of two", (x, v) -> x.best(0, 2, 100, v), 0, 2, 1, 2, BAD_OR_WORD);
        ask("20 i of three", (x, v) -> x.best(0, 3, 100, v), 0, 2, 2, 2, BAD_OR_WORD);
        ask("21 law", (x, v) -> x.least(v, 1, 100), 0, 2907600, 1, 2892000, BAD);
        ask("21 n", (x, v) -> x.least(0, v, 100), 1, 2907600, 3, 2896880, BAD);
        ask("21 day", (x, v) -> x.least(0, 1, v), 0, 1000000, 299, 3249880, BAD);
        ask("22 law", (x, v) -> x.answer(v, 0, 100), 0, -1, 1, 0, BAD_OR_WORD);
        ask("22 payment", (x, v) -> x.answer(1, v, 100), 0, 0, 2, 0, BAD_OR_WORD);
        ask("22 day", (x, v) -> x.answer(1, 0, v), 0, -1, 299, 0, BAD_OR_WORD);
    }

    private static void hangs() {
        ask("23 law", (x, v) -> x.hangs(v, 0, 10, 30, 100, 0), 0, 2930000, 1, 2889000, BAD);
        ask("23 payment", (x, v) -> x.hangs(1, v, 10, 30, 100, 0), 0, 2889000, 2, 2889500, BAD);
        ask("23 from", (x, v) -> x.hangs(1, 0, v, 299, 100, 0), 0, 2889000, 299, 3216000, BAD);
        ask("23 from no later than to", (x, v) -> x.hangs(1, 0, v, 30, 100, 0), 0, 2889000, 30, 2895000, BAD);
        ask("23 to", (x, v) -> x.hangs(1, 0, 0, v, 100, 1), 0, 2916000, 299, 3216000, BAD);
        ask("23 to no earlier than from", (x, v) -> x.hangs(1, 0, 10, v, 100, 1), 10, 2889000, 299, 3216000, BAD);
        ask("23 day", (x, v) -> x.hangs(1, 0, 10, 30, v, 0), 0, 1000000, 299, 3177550, BAD);
        ask("23 what", (x, v) -> x.hangs(1, 0, 10, 30, 100, v), 0, 2889000, 1, 2895000, BAD);
    }

    private static void plan() {
        ask("24 law", (x, v) -> x.plan(v, 100, 100, 10, 1), 0, 41210, 1, 103500, BAD);
        ask("24 whole", (x, v) -> x.plan(0, v, 100, 10, 1), 1, -4, 9999, 97060000, BAD);
        ask("24 day", (x, v) -> x.plan(0, 400, v, 10, 0), 0, 0, 299, 299, BAD);
        ask("24 each", (x, v) -> x.plan(0, 100, 100, v, 0), 1, 102, 60, 280, BAD);
        ask("24 what", (x, v) -> x.plan(0, 100, 100, 10, v), 0, 120, 1, 41210, BAD);
        ask("26 day", (x, v) -> x.gap(v), 0, 0, 299, -147450, BAD_OR_GAP);
    }

    private static void judge() {
        ask("27 law", (x, v) -> x.judge(v, 20, 0, 2, 1), 0, -4, 1, 1, BAD);
        ask("27 day", (x, v) -> x.judge(0, v, 0, 2, 1), 0, 2, 299, 0, BAD);
        ask("27 sheet", (x, v) -> x.judge(0, 20, v, 2, 1), 0, -4, 3, -4, BAD);
        ask("27 lane", (x, v) -> x.judge(0, 20, 0, v, 1), 0, -12, 2, -4, BAD);
        ask("27 from", (x, v) -> x.judge(0, 20, 0, 2, v), 0, 0, 2, 0, INDEX);
    }

    private static void sheets() {
        act("30 sheet", (x, v) -> x.sheet(v, 0, 4), 0, 4, 3, 4, BAD);
        act("30 lane", (x, v) -> x.sheet(0, v, 4), 0, 4, 2, 4, BAD);
        act("30 n", (x, v) -> x.sheet(0, 0, v), 0, 0, 24, 24, SIZE_OR_BAD);
        act("31 sheet", (x, v) -> x.drop(v), 0, 5, 3, 5, BAD);
        act("32 sheet", (x, v) -> x.item(v, 2, 0, 1), 0, 1, 3, 1, BAD);
        act("32 lane", (x, v) -> x.item(0, v, 0, 1), 0, -12, 2, 1, BAD);
        act("32 i", (x, v) -> x.item(0, 2, v, 1), 0, 1, 4, 1, INDEX);
        due("32 the least v", Stand.made().item(0, 2, 0, Integer.MIN_VALUE), 1);
        due("32 the greatest v", Stand.made().item(0, 2, 0, Integer.MAX_VALUE), 1);
    }
}
