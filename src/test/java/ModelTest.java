import java.lang.reflect.InvocationTargetException;
import java.lang.reflect.Method;
import java.util.Arrays;
import java.util.List;
import java.util.Random;
import java.util.TreeSet;

/**
 * Long runs of calls, the same ones each time, on a MuseumHouse and a PlainHouse side by side:
 * every answer, every exception by its very class, and rule() behind each exception must be alike.
 */
public final class ModelTest {
    private static final int RUNS = 1500;
    /** The document promises nothing behind the 512th call. */
    private static final int CALLS = 512;
    private static final int[] WILD = {
        0, 1, -1, 99, 1000, 9999, 10000, 100_000, -100, -500, Integer.MIN_VALUE, Integer.MAX_VALUE
    };

    /**
     * Each call with what its arguments are: a digit is a kind of handle, P a parent, H any handle,
     * d a day, D one soon behind the day in front of it, y a year, r rights, n days to go by, e an
     * end, s a source, k a kind.
     */
    private static final String[] CALLED = {
        "desk 1r", "day n", "site 1", "context 12", "above 133", "span 13yy", "isAbove 33",
        "year 3e", "find 13d", "object 14", "store 1P", "carry 16P", "within 66", "move 156d",
        "place 5d", "stored 6d", "loan 15dD", "back 17d", "show 16dD", "hang 185", "take 185",
        "claim 15s", "close 19", "where 5d", "origin H", "hall 8", "rule ", "count k",
    };

    private static final TreeSet<String> met = new TreeSet<>();

    public static void main(String[] args) throws ReflectiveOperationException {
        for (int run = 0; run < RUNS; run++) {
            compareRun(run);
        }
        everyRuleWasMet();
        Checks.end();
    }

    private static void compareRun(int run) throws ReflectiveOperationException {
        Random random = new Random(run);
        int[] weights = weights(random);
        int farthest = random.nextBoolean() ? 40 : 9999;
        MuseumHouse house = new MuseumHouse();
        PlainHouse plain = new PlainHouse();
        StringBuilder calls = new StringBuilder();
        int made = open(random.nextInt(2) * random.nextInt(31), house, plain);
        while (made + 2 <= CALLS) {
            String[] called = CALLED[pick(random, weights)].split(" ", 2);
            Object[] values = values(random, called[1], plain, farthest);
            String want = answer(plain, called[0], values);
            String got = answer(house, called[0], values);
            made++;
            boolean isRefused = want.endsWith("Exception");
            if (isRefused) {
                want += ", rule " + plain.rule();
                got += ", rule " + house.rule();
                made++;
            }
            calls.append(called[0]).append(Arrays.toString(values)).append(' ');
            Checks.equal(want, got);
            if (!want.equals(got)) {
                System.out.println("run " + run + ": " + calls);
                return;
            }
            met.add(called[0] + (isRefused ? " " + plain.rule() : " answers"));
        }
    }

    /** Some runs begin with objects, so that calls are left for what comes behind them. */
    private static int open(int objects, MuseumHouse house, PlainHouse plain)
            throws ReflectiveOperationException {
        int made = 0;
        if (objects > 0) {
            made += both(house, plain, "site", 100) + both(house, plain, "context", 100, 200);
        }
        for (int number = 0; number < objects; number++) {
            made += both(house, plain, "find", 100, 300, 0);
            made += both(house, plain, "object", 100, 400 + number);
        }
        return made;
    }

    private static int both(MuseumHouse house, PlainHouse plain, String name, Object... values)
            throws ReflectiveOperationException {
        Checks.equal(answer(plain, name, values), answer(house, name, values));
        return 1;
    }

    /** Some calls often and some seldom, others in each run, so that all kinds get full. */
    private static int[] weights(Random random) {
        int[] weights = new int[CALLED.length];
        for (int i = 0; i < weights.length; i++) {
            weights[i] = new int[] {1, 3, 3, 12}[random.nextInt(4)];
        }
        for (int often = 0; often < 3; often++) {
            weights[random.nextInt(weights.length)] = 60;
        }
        return weights;
    }

    private static int pick(Random random, int[] weights) {
        int at = random.nextInt(Arrays.stream(weights).sum());
        int i = 0;
        while (at >= weights[i]) {
            at -= weights[i];
            i++;
        }
        return i;
    }

    private static Object[] values(Random random, String whats, PlainHouse plain, int farthest) {
        Object[] values = new Object[whats.length()];
        int before = 0;
        for (int i = 0; i < values.length; i++) {
            boolean isSoonBehind = whats.charAt(i) == 'D' && random.nextInt(10) != 0;
            before = isSoonBehind
                ? before + random.nextInt(5) : value(random, whats.charAt(i), plain, farthest);
            values[i] = before;
        }
        return values;
    }

    private static int value(Random random, char what, PlainHouse plain, int farthest) {
        if (random.nextInt(40) == 0) {
            return WILD[random.nextInt(WILD.length)];
        }
        switch (what) {
            case 'P': return random.nextInt(3) == 0 ? 0 : handle(random, 6, plain);
            case 'H': return handle(random, 1 + random.nextInt(9), plain);
            case 'd': case 'D': return random.nextInt(farthest + 1);
            case 'y': return random.nextBoolean() ? random.nextInt(1000) : 999 * random.nextInt(2);
            case 'r': return random.nextBoolean() ? 63 : random.nextInt(65);
            case 'n': return farthest == 40 ? random.nextInt(10) : random.nextInt(1001);
            case 'e': return random.nextInt(2);
            case 's': return random.nextBoolean() ? random.nextInt(11) : random.nextInt(3);
            case 'k': return random.nextInt(11);
            default: return handle(random, what - '0', plain);
        }
    }

    /** One that is there, most often an early one, or seldom the next one that is not. */
    private static int handle(Random random, int kind, PlainHouse plain) {
        int there = plain.count(kind);
        if (there == 0 || random.nextInt(40) == 0) {
            return 100 * kind + there;
        }
        if (kind == 4 && plain.count(5) < there && random.nextBoolean()) {
            return 400 + plain.count(5);
        }
        if (kind == 1 && random.nextBoolean()) {
            return 100;
        }
        int bound = random.nextInt(3) == 0 ? there : Math.min(there, 3);
        return 100 * kind + random.nextInt(bound);
    }

    private static String answer(Object house, String name, Object[] values)
            throws ReflectiveOperationException {
        Class<?>[] types = new Class<?>[values.length];
        Arrays.fill(types, int.class);
        Method method = house.getClass().getDeclaredMethod(name, types);
        try {
            return String.valueOf(method.invoke(house, values));
        } catch (InvocationTargetException thrown) {
            return thrown.getCause().getClass().getName();
        }
    }

    /**
     * Runs that no longer meet a rule at a call would pass without a word. A refused count is by no
     * rule, so that what rule() tells then is of an earlier call.
     */
    private static void everyRuleWasMet() {
        TreeSet<String> due = new TreeSet<>();
        for (String called : CALLED) {
            String name = called.split(" ")[0];
            due.add(name + " answers");
            Houses.REFUSED_BY.getOrDefault(name, List.of())
                .forEach(rule -> due.add(name + " " + rule));
        }
        met.removeIf(name -> name.matches("count \\d+"));
        Checks.equal(due.toString(), met.toString());
    }
}
