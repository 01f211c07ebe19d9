import java.lang.reflect.InvocationTargetException;
import java.lang.reflect.Method;
import java.lang.reflect.Modifier;

/** Long runs of calls, the same on the program and on the naive crossing: all answers are the same. */
final class NaiveTest {
    private static final int RUNS = 200;
    /** What calls of an object answer behind these is free. */
    private static final int PROMISED_CALLS = 512;
    /** A text up to the 61st character, which is refused, with its clearBuffer(), and a digest(). */
    private static final int MOST_CALLS_OF_A_STEP = 63;
    private static final int DIGEST_EACH = 9;
    private static final int TEXT = 11;
    private static final int DIGEST = 26;
    private static final String[] CALLS_BY_KIND = {"clash", "addPhase", "addRule", "dropRule", "change", "set",
        "come", "run", "run", "start", "append", "a whole text", "firstError", "build", "undo", "phase", "rule",
        "direction", "count", "starves", "rounds", "waitFor", "waitFor", "slowest", "remedy", "safeShare",
        "digest", "clearBuffer", "come", "come", "build"};

    private long seed;
    private int done = 0;

    private NaiveTest(long seed) {
        this.seed = seed;
    }

    public static void main(String[] args) {
        for (int run = 1; run <= RUNS; run++) {
            new NaiveTest(run * 7919L).compare(run);
        }
        Due.end();
    }

    /** A number below the bound, the same in every run of the test. */
    private int below(int bound) {
        seed = seed * 6364136223846793005L + 1442695040888963407L;
        return (int) ((seed >>> 33) % bound);
    }

    /** Mostly a number below the bound, now and then one out of range. */
    private int near(int bound) {
        return below(15) == 0 ? below(bound + 4) - 2 : below(Math.max(1, bound));
    }

    private void compare(int run) {
        GreenMachines machine = new GreenMachines();
        NaiveCrossing naive = new NaiveCrossing();
        if (below(3) > 0) {
            furnish(machine, naive, run);
        }
        for (int step = 0; done + MOST_CALLS_OF_A_STEP <= PROMISED_CALLS; step++) {
            int kind = below(CALLS_BY_KIND.length);
            int[] numbers = numbers(kind, naive.count(0));
            String name = "run " + run + ", step " + step + " of kind " + kind + " with "
                    + numbers[0] + ", " + numbers[1] + ", " + numbers[2];
            Due.same(name, answerOf(() -> ask(machine, kind, numbers)), answerOf(() -> ask(naive, kind, numbers)));
            if (step % DIGEST_EACH == 0) {
                Due.same(name + ", digest()", ask(machine, DIGEST, numbers), ask(naive, DIGEST, numbers));
            }
        }
    }

    /** Phases and rules at once, as most of the proofs need many. */
    private void furnish(GreenMachines machine, NaiveCrossing naive, int run) {
        int phases = 2 + below(7);
        for (int phase = 0; phase < phases; phase++) {
            int[] numbers = {below(64) & below(64), 1 + below(9), 0};
            Due.same("run " + run + ", phase", ask(machine, 1, numbers), ask(naive, 1, numbers));
        }
        int rules = phases + below(2 * phases);
        for (int rule = 0; rule < rules; rule++) {
            int[] numbers = {rule % phases, below(phases), below(2) == 0 ? 0 : below(64) & below(64)};
            Due.same("run " + run + ", rule", answerOf(() -> ask(machine, 2, numbers)),
                    answerOf(() -> ask(naive, 2, numbers)));
        }
    }

    /** Arguments that are in range mostly, for the call of this kind. */
    private int[] numbers(int kind, int phases) {
        switch (kind) {
            case 0:
                return new int[] {near(6), near(6), 0};
            case 1:
                return new int[] {near(64) & near(64), near(10), 0};
            case 2:
                return new int[] {near(phases), near(phases), below(3) == 0 ? 0 : near(64)};
            case 4:
                return new int[] {near(phases), near(64) & near(64), near(10)};
            case 7:
            case 8:
                return new int[] {below(4) == 0 ? near(101) : 1 + below(9), 0, 0};
            case 10:
            case 11:
                return new int[] {"p*;r>?x0123456789q!"
                    .charAt(below(19)), below(120), below(1000)};
            case 15:
                return new int[] {near(phases), near(6), 0};
            case 16:
                return new int[] {near(phases), near(4), near(3)};
            case 17:
                return new int[] {near(6), near(6), 0};
            case 18:
                return new int[] {near(12), 0, 0};
            case 3:
            case 9:
                return new int[] {near(phases), 0, 0};
            default:
                return new int[] {near(6), near(phases), below(2)};
        }
    }

    private interface Asked {
        long answer();
    }

    /** The answer, or a number that stands for the exception. */
    private static long answerOf(Asked asked) {
        try {
            return asked.answer();
        } catch (IndexOutOfBoundsException thrown) {
            return Long.MIN_VALUE + (thrown.getClass() == IndexOutOfBoundsException.class ? 1 : 9);
        } catch (IllegalArgumentException thrown) {
            return Long.MIN_VALUE + 2;
        } catch (IllegalStateException thrown) {
            return Long.MIN_VALUE + 3;
        }
    }

    /** A text of up to nine orders, most of them well written. */
    private static String text(int[] numbers) {
        StringBuilder text = new StringBuilder();
        int orders = 1 + numbers[1] % 9;
        for (int order = 0; order < orders; order++) {
            int one = (numbers[1] + 3 * order) % 6;
            int other = (numbers[2] / 7 + order * order) % 8;
            String[] kinds = {"p" + one + "*" + (1 + other), "r" + one + ">" + other,
                "r" + one + ">" + other + "?" + one, "x0" + (1 + other % 5), "p1*" + (1 + one),
                "r" + other + ">" + one + "?0" + (1 + one)};
            text.append(order == 0 ? "" : ";").append(kinds[(numbers[2] + order * one) % kinds.length]);
        }
        return text.toString();
    }

    private long ask(Object x, int kind, int[] numbers) {
        if (kind == TEXT) {
            long hash = call(x, "clearBuffer", numbers);
            for (char sign : text(numbers).toCharArray()) {
                hash = hash * 31 + call(x, "append", new int[] {sign});
            }
            return hash;
        }
        return call(x, CALLS_BY_KIND[kind], numbers);
    }

    /** Both classes have the face's methods by the same names; a boolean is told by the last number. */
    private long call(Object x, String name, int[] numbers) {
        done += x instanceof GreenMachines ? 1 : 0;
        try {
            for (Method method : x.getClass().getDeclaredMethods()) {
                boolean taken = !Modifier.isPrivate(method.getModifiers()) && method.getName().equals(name);
                if (taken) {
                    Object answer = method.invoke(x, arguments(method, numbers));
                    return answer instanceof Double
                            ? Double.doubleToLongBits((Double) answer) : ((Number) answer).longValue();
                }
            }
        } catch (InvocationTargetException thrown) {
            if (thrown.getCause() instanceof RuntimeException) {
                throw (RuntimeException) thrown.getCause();
            }
            throw new AssertionError(thrown);
        } catch (IllegalAccessException thrown) {
            throw new AssertionError(thrown);
        }
        throw new AssertionError("there is no method " + name);
    }

    private static Object[] arguments(Method method, int[] numbers) {
        Class<?>[] types = method.getParameterTypes();
        Object[] arguments = new Object[types.length];
        for (int place = 0; place < types.length; place++) {
            if (types[place] == boolean.class) {
                arguments[place] = numbers[place] == 1;
            } else {
                arguments[place] = numbers[place];
            }
        }
        return arguments;
    }
}
