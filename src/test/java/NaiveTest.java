/** Long runs of calls, the same on the program and on the naive crossing: all answers are the same. */
final class NaiveTest {
    private static final int RUNS = 120;
    private static final int CALLS = 300;
    private static final int DIGEST_EACH = 9;

    private long seed;

    private NaiveTest(long seed) {
        this.seed = seed;
    }

    public static void main(String[] args) {
        for (int run = 1; run <= RUNS; run++) {
            new NaiveTest(run * 7919L).compare(run);
        }
        Due.end();
    }

    /** A number below the bound, the same in every run of the test. */
    private int below(int bound) {
        seed = seed * 6364136223846793005L + 1442695040888963407L;
        return (int) ((seed >>> 33) % bound);
    }

    /** Mostly a number below the bound, now and then one out of range. */
    private int near(int bound) {
        return below(15) == 0 ? below(bound + 4) - 2 : below(Math.max(1, bound));
    }

    private void compare(int run) {
        GreenMachines machine = new GreenMachines();
        NaiveCrossing naive = new NaiveCrossing();
        if (below(3) > 0) {
            furnish(machine, naive, run);
        }
        for (int call = 0; call < CALLS; call++) {
            int kind = below(30);
            int[] numbers = numbers(kind, machine.count(0));
            String name = "run " + run + ", call " + call + " of kind " + kind + " with "
                    + numbers[0] + ", " + numbers[1] + ", " + numbers[2];
            Due.same(name, answerOf(() -> ask(machine, kind, numbers)), answerOf(() -> ask(naive, kind, numbers)));
            if (call % DIGEST_EACH == 0) {
                Due.same(name + ", digest()", machine.digest(), naive.digest());
            }
        }
    }

    /** Phases and rules at once, as most of the proofs need many. */
    private void furnish(GreenMachines machine, NaiveCrossing naive, int run) {
        int phases = 2 + below(7);
        for (int phase = 0; phase < phases; phase++) {
            int[] numbers = {below(64) & below(64), 1 + below(9), 0};
            Due.same("run " + run + ", phase", ask(machine, 1, numbers), ask(naive, 1, numbers));
        }
        int rules = phases + below(2 * phases);
        for (int rule = 0; rule < rules; rule++) {
            int[] numbers = {rule % phases, below(phases), below(2) == 0 ? 0 : below(64) & below(64)};
            Due.same("run " + run + ", rule", answerOf(() -> ask(machine, 2, numbers)),
                    answerOf(() -> ask(naive, 2, numbers)));
        }
    }

    private int[] numbers(int kind, int phases) {
        switch (kind) {
            case 0:
                return new int[] {near(6), near(6), 0};
            case 1:
                return new int[] {near(64) & near(64), near(10), 0};
            case 2:
                return new int[] {near(phases), near(phases), below(3) == 0 ? 0 : near(64)};
            case 4:
                return new int[] {near(phases), near(64) & near(64), near(10)};
            case 7:
            case 8:
                return new int[] {below(4) == 0 ? near(101) : 1 + below(9), 0, 0};
            case 10:
            case 11:
                return new int[] {"p*;r>?x0123456789q!"
                    .charAt(below(19)), below(120), below(1000)};
            case 15:
                return new int[] {near(phases), near(6), 0};
            case 16:
                return new int[] {near(phases), near(4), near(3)};
            case 17:
                return new int[] {near(6), near(6), 0};
            case 18:
                return new int[] {near(12), 0, 0};
            case 3:
            case 9:
                return new int[] {near(phases), 0, 0};
            default:
                return new int[] {near(6), near(phases), below(2)};
        }
    }

    private interface Asked {
        long answer();
    }

    /** The answer, or a number that stands for the exception. */
    private static long answerOf(Asked asked) {
        try {
            return asked.answer();
        } catch (IndexOutOfBoundsException thrown) {
            return Long.MIN_VALUE + (thrown.getClass() == IndexOutOfBoundsException.class ? 1 : 9);
        } catch (IllegalArgumentException thrown) {
            return Long.MIN_VALUE + 2;
        } catch (IllegalStateException thrown) {
            return Long.MIN_VALUE + 3;
        }
    }

    private static String order(int[] numbers) {
        int one = numbers[1] % 8;
        int other = numbers[2] % 8;
        String[] orders = {"p" + one + "*" + (1 + other), "r" + one + ">" + other, "r" + one + ">" + other + "?" + one,
            "x" + one + other, "r" + one + ">" + other + "?0" + other, "p*" + other};
        String end = numbers[1] % 3 == 0 ? ";" : "";
        return orders[numbers[2] % orders.length] + end;
    }

    private static long ask(GreenMachines x, int kind, int[] n) {
        switch (kind) {
            case 0: return x.clash(n[0], n[1]);
            case 1: return x.addPhase(n[0], n[1]);
            case 2: return x.addRule(n[0], n[1], n[2]);
            case 3: return x.dropRule(n[0]);
            case 4: return x.change(n[0], n[1], n[2]);
            case 5: return x.set(n[0]);
            case 6: return x.come(n[0]);
            case 7:
            case 8: return x.run(n[0]);
            case 9: return x.start(n[0]);
            case 10: return x.append(n[0]);
            case 11: {
                long hash = 0;
                for (char sign : order(n).toCharArray()) {
                    hash = hash * 31 + x.append(sign);
                }
                return hash;
            }
            case 12: return n[2] == 0 ? x.clearBuffer() : x.firstError();
            case 13: return x.build();
            case 14: return x.undo();
            case 15: return x.phase(n[0], n[1]);
            case 16: return x.rule(n[0], n[1], n[2]);
            case 17: return x.direction(n[0], n[1]);
            case 18: return x.count(n[0]);
            case 19: return x.starves(n[0], n[1]);
            case 20: return x.rounds(n[0]);
            case 21:
            case 22: return x.waitFor(n[0], n[1], n[2] == 1);
            case 23: return x.slowest();
            case 24: return x.remedy(n[0], n[1]);
            case 25: return Double.doubleToLongBits(x.safeShare());
            case 26: return x.digest();
            case 27: return x.firstError();
            default: return x.come(n[0]);
        }
    }

    private static long ask(NaiveCrossing x, int kind, int[] n) {
        switch (kind) {
            case 0: return x.clash(n[0], n[1]);
            case 1: return x.addPhase(n[0], n[1]);
            case 2: return x.addRule(n[0], n[1], n[2]);
            case 3: return x.dropRule(n[0]);
            case 4: return x.change(n[0], n[1], n[2]);
            case 5: return x.set(n[0]);
            case 6: return x.come(n[0]);
            case 7:
            case 8: return x.run(n[0]);
            case 9: return x.start(n[0]);
            case 10: return x.append(n[0]);
            case 11: {
                long hash = 0;
                for (char sign : order(n).toCharArray()) {
                    hash = hash * 31 + x.append(sign);
                }
                return hash;
            }
            case 12: return n[2] == 0 ? x.clearBuffer() : x.firstError();
            case 13: return x.build();
            case 14: return x.undo();
            case 15: return x.phase(n[0], n[1]);
            case 16: return x.rule(n[0], n[1], n[2]);
            case 17: return x.direction(n[0], n[1]);
            case 18: return x.count(n[0]);
            case 19: return x.starves(n[0], n[1]);
            case 20: return x.rounds(n[0]);
            case 21:
            case 22: return x.waitFor(n[0], n[1], n[2] == 1);
            case 23: return x.slowest();
            case 24: return x.remedy(n[0], n[1]);
            case 25: return Double.doubleToLongBits(x.safeShare());
            case 26: return x.digest();
            case 27: return x.firstError();
            default: return x.come(n[0]);
        }
    }
}
