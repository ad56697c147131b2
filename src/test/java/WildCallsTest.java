import java.lang.reflect.InvocationTargetException;
import java.lang.reflect.Method;
import java.lang.reflect.Modifier;
import java.util.HashMap;
import java.util.Map;
import java.util.Random;

/**
 * Whatever numbers come in whatever state, far behind the 512th call too: no call throws, and two objects that are asked
 * the same answer the same. What the answers are within 512 calls, other tests see.
 */
public final class WildCallsTest extends Checks {
    private static final int RUNS = 40;
    private static final int CALLS = 1500;
    private static final String LETTERS = "ctsxpdhuol ";
    /** From where to where the numbers of each call mostly go. */
    private static final String[] MOSTLY = {"debt 1-99 0-60 0-90 0-99", "set 0-7 0-5 0-9", "pay 0-99 1-99",
        "pays 0-3 0-2 0-23 0-12", "word 0-11 0-1 0-7", "move 0-11 0-99", "count 0-3", "type 0-0 1-8", "law 0-1",
        "letter 0-1 0-9", "left 0-1 0-7 0-299 0-2", "owed 0-1 0-299", "put 0-1 0-11 0-7 0-1", "paid 0-1 0-7",
        "dead 0-1 0-7 0-299", "wakes 0-1 0-7", "free 0-1 0-5", "rank 0-1 0-299 0-7", "best 0-1 1-3 0-299 0-2",
        "least 0-1 1-3 0-299", "answer 0-1 0-11 0-299", "hangs 0-1 0-11 0-99 0-299 0-299 0-1",
        "plan 0-1 1-99 0-299 1-60 0-1", "parts", "gap 0-299", "judge 0-1 0-299 0-3 0-2 0-16", "image", "restore",
        "sheet 0-3 0-2 0-24", "drop 0-3", "item 0-3 0-2 0-23 0-99"};
    private static final int[] FAR = {Integer.MIN_VALUE, Integer.MIN_VALUE + 1, -10000, -300, -24, -2, -1, 12, 24, 25, 40,
        299, 300, 9999, 10000, 65536, Integer.MAX_VALUE - 1, Integer.MAX_VALUE};

    private final Random dice;
    private final PaidDebts one = new PaidDebts();
    private final PaidDebts two = new PaidDebts();
    private final Map<String, Method> calls = new HashMap<>();
    private final String run;

    private WildCallsTest(int seed) {
        run = "run " + seed;
        dice = new Random(seed);
        for (Method call : PaidDebts.class.getDeclaredMethods()) {
            if (Modifier.isPublic(call.getModifiers())) {
                calls.put(call.getName(), call);
            }
        }
        due("calls of the face", calls.size(), MOSTLY.length);
    }

    public static void main(String[] args) throws Exception {
        for (int seed = 0; seed < RUNS; seed++) {
            new WildCallsTest(seed).go();
        }
        end("no call throws");
    }

    private void go() throws Exception {
        for (int i = 0; i < CALLS; i++) {
            String[] mostly = MOSTLY[dice.nextInt(MOSTLY.length)].split("[ -]");
            // A book that is put back too often stays empty.
            if (mostly[0].equals("restore") && dice.nextInt(20) != 0) {
                continue;
            }
            Method call = calls.get(mostly[0]);
            Object[] numbers = new Object[call.getParameterCount()];
            StringBuilder told = new StringBuilder(run + ", call " + i + ", " + call.getName());
            for (int k = 0; k < numbers.length; k++) {
                boolean isText = call.getParameterTypes()[k] == long.class;
                int from = Integer.parseInt(mostly[2 * k + 1]), to = Integer.parseInt(mostly[2 * k + 2]);
                numbers[k] = isText ? (Object) text() : (Object) number(from, to);
                told.append(' ').append(numbers[k]);
            }
            due(told + " by another object", answer(told, call, one, numbers), answer(told, call, two, numbers));
        }
    }

    private static long answer(StringBuilder told, Method call, PaidDebts x, Object[] numbers) throws Exception {
        try {
            return ((Number) call.invoke(x, numbers)).longValue();
        } catch (InvocationTargetException thrown) {
            due(told + " threw " + thrown.getCause(), 1, 0);
            return Long.MIN_VALUE;
        }
    }

    private int number(int from, int to) {
        switch (dice.nextInt(40)) {
            case 0: return FAR[dice.nextInt(FAR.length)];
            case 1: return dice.nextInt();
            case 2: return from - 1;
            case 3: return to + 1;
            default: return from + dice.nextInt(to - from + 1);
        }
    }

    /** Mostly of letters that are not alike, so that it can be a law. */
    private long text() {
        int start = dice.nextInt(LETTERS.length()), step = 1 + dice.nextInt(LETTERS.length() - 1);
        long text = 0;
        for (int i = 0; i < 8; i++) {
            int sign = LETTERS.charAt((start + i * step) % LETTERS.length());
            text = text << 8 | (dice.nextInt(200) == 0 ? dice.nextInt(256) : sign);
        }
        return text;
    }
}
