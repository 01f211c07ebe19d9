/** Promises 20 to 25: who can starve, and how long the waits can be. */
final class ProofsTest {
    private static final Class<IllegalArgumentException> ARGUMENT = IllegalArgumentException.class;
    private static final Class<IndexOutOfBoundsException> INDEX = IndexOutOfBoundsException.class;

    public static void main(String[] args) {
        arguments();
        takingTurns();
        askersDecide();
        rulesBehind();
        staying();
        waysThroughGreen();
        sameGreens();
        branches();
        nothingIsKept();
        remedyMindsWhatCanCome();
        slowest();
        safeShare();
        Due.end();
    }

    private static void arguments() {
        GreenMachines machine = Due.built("p0*1;p1*1");
        for (int phase : new int[] {-1, 2, 8}) {
            Due.thrown(machine, "starves(6, " + phase + ")", INDEX, () -> machine.starves(6, phase));
            Due.thrown(machine, "waitFor(6, " + phase + ", true)", INDEX, () -> machine.waitFor(6, phase, true));
            Due.thrown(machine, "remedy(-1, " + phase + ")", INDEX, () -> machine.remedy(-1, phase));
            Due.thrown(machine, "starves(0, " + phase + ")", INDEX, () -> machine.starves(0, phase));
            Due.thrown(machine, "waitFor(0, " + phase + ", false)", INDEX, () -> machine.waitFor(0, phase, false));
            Due.thrown(machine, "remedy(0, " + phase + ")", INDEX, () -> machine.remedy(0, phase));
        }
        for (int direction : new int[] {-1, 6}) {
            Due.thrown(machine, "starves(" + direction + ", 1)", ARGUMENT, () -> machine.starves(direction, 1));
            Due.thrown(machine, "waitFor(" + direction + ", 1, true)", ARGUMENT,
                    () -> machine.waitFor(direction, 1, true));
            Due.thrown(machine, "waitFor(" + direction + ", 1, false)", ARGUMENT,
                    () -> machine.waitFor(direction, 1, false));
            Due.thrown(machine, "remedy(" + direction + ", 1)", ARGUMENT, () -> machine.remedy(direction, 1));
            Due.thrown(machine, "rounds(" + direction + ")", ARGUMENT, () -> machine.rounds(direction));
        }
    }

    /** The proofs of a direction: for each phase starves, longest, shortest, remedy; and the rounds. */
    private static void check(GreenMachines machine, String name, int direction, int rounds, int[][] due) {
        for (int phase = 0; phase < due.length; phase++) {
            String at = "(" + direction + ", " + phase + ")";
            Due.same(name + ": starves" + at, machine.starves(direction, phase), due[phase][0]);
            Due.same(name + ": longest wait" + at, machine.waitFor(direction, phase, true), due[phase][1]);
            Due.same(name + ": shortest wait" + at, machine.waitFor(direction, phase, false), due[phase][2]);
            Due.same(name + ": remedy" + at, machine.remedy(direction, phase), due[phase][3]);
        }
        Due.same(name + ": rounds(" + direction + ")", machine.rounds(direction), rounds);
    }

    private static void takingTurns() {
        GreenMachines machine = Due.built("p0*3;p1*2;r0>1;r1>0");
        check(machine, "turns", 0, 0, new int[][] {{0, 0, 0, -1}, {0, 4, 4, -1}});
        check(machine, "turns", 1, 0, new int[][] {{0, 5, 5, -1}, {0, 0, 0, -1}});
        check(machine, "turns", 2, 0b11, new int[][] {{1, -1, -1, -1}, {1, -1, -1, -1}});
        Due.same("turns: slowest()", machine.slowest(), 1);
        machine.set(0);
        check(machine, "turns at once", 1, 0, new int[][] {{0, 3, 3, -1}, {0, 0, 0, -1}});
    }

    private static void askersDecide() {
        GreenMachines machine = Due.built("p0*1;p1*2;p2*3;r0>1?1;r0>2?12;r1>0;r2>0");
        check(machine, "askers", 0, 0, new int[][] {{0, 0, 0, -1}, {0, 4, 4, -1}, {0, 5, 5, -1}});
        check(machine, "askers", 1, 0, new int[][] {{0, 3, 3, -1}, {0, 0, 0, -1}, {0, 8, 8, -1}});
        check(machine, "askers", 2, 0b011, new int[][] {{1, -1, 3, 2}, {1, -1, 7, 2}, {0, 0, 0, -1}});
        Due.same("askers: slowest()", machine.slowest(), 1);
    }

    /** A rule is not followed behind one without askers, nor behind ones that have all its askers. */
    private static void rulesBehind() {
        GreenMachines machine = Due.built("p0*1;p1*1;p2*1;r0>1?12;r0>2?1;r1>0;r2>0");
        check(machine, "behind", 3, 0b011, new int[][] {{1, -1, -1, -1}, {1, -1, -1, -1}, {1, -1, -1, -1}});
        check(machine, "behind", 2, 0b011, new int[][] {{1, -1, -1, 2}, {1, -1, -1, 2}, {0, 0, 0, -1}});
        Due.same("2 can come by any rules", machine.phase(2, 4), 1);
        GreenMachines without = Due.built("p0*1;p1*1;p2*1;r0>1;r0>2?2;r1>0;r2>0");
        check(without, "behind all", 2, 0b011, new int[][] {{1, -1, -1, 2}, {1, -1, -1, 2}, {0, 0, 0, -1}});
        GreenMachines late = Due.built("p0*1;p1*1;p2*1;r0>1?3;r0>1?34;r0>2;r1>0;r2>0");
        check(late, "at the end", 2, 0b011, new int[][] {{1, -1, 3, 2}, {1, -1, 6, 2}, {0, 0, 0, -1}});
        check(late, "at the end", 3, 0b011, new int[][] {{1, -1, -1, -1}, {1, -1, -1, -1}, {1, -1, -1, -1}});
    }

    private static void staying() {
        GreenMachines machine = Due.built("p0*1;p1*1;p2*4;r0>1?3;r2>0");
        check(machine, "staying", 1, 0b001, new int[][] {{1, -1, 3, 1}, {0, 0, 0, -1}, {1, -1, 9, -1}});
        check(machine, "staying", 0, 0b010, new int[][] {{0, 0, 0, -1}, {1, -1, -1, 0}, {0, 6, 6, -1}});
        check(machine, "staying", 3, 0b010, new int[][] {{1, -1, -1, -1}, {1, -1, -1, -1}, {1, -1, -1, -1}});
        machine.addRule(0, 1, 0b10);
        check(machine, "asked by itself", 1, 0, new int[][] {{0, 3, 3, -1}, {0, 0, 0, -1}, {0, 9, 9, -1}});
        machine.start(2);
        machine.addRule(1, 0, 1);
        check(machine, "to 0", 0, 0, new int[][] {{0, 0, 0, -1}, {0, 3, 3, -1}, {0, 6, 6, -1}});
    }

    /** A round through a phase with the direction's green is none. */
    private static void waysThroughGreen() {
        GreenMachines machine = Due.built("p0*1;p1*1;p2*1;p3*1;r0>1;r1>2;r2>0;r3>2?0;r3>0");
        machine.start(3);
        check(machine, "through green", 1, 0, new int[][] {{0, 3, 3, -1}, {0, 0, 0, -1}, {0, 6, 6, -1},
            {0, 9, 6, -1}});
        check(machine, "never green", 4, 0b0111, new int[][] {{1, -1, -1, -1}, {1, -1, -1, -1}, {1, -1, -1, -1},
            {1, -1, -1, -1}});
        check(machine, "green at first", 3, 0b0111, new int[][] {{1, -1, -1, 3}, {1, -1, -1, 3}, {1, -1, -1, 3},
            {0, 0, 0, -1}});
        Due.same("through green: slowest()", machine.slowest(), 1);
    }

    private static void sameGreens() {
        GreenMachines machine = Due.built("p0*1;p0*3;p1*2;r0>1;r1>2;r2>0");
        check(machine, "same greens", 1, 0, new int[][] {{0, 6, 6, -1}, {0, 5, 5, -1}, {0, 0, 0, -1}});
        machine.set(5);
        check(machine, "same greens, 5", 1, 0, new int[][] {{0, 9, 9, -1}, {0, 8, 8, -1}, {0, 0, 0, -1}});
    }

    private static void branches() {
        GreenMachines machine = Due.built("p0*1;p*9;p1*1;r0>2?2;r0>1;r1>2;r2>0");
        check(machine, "branches", 1, 0, new int[][] {{0, 14, 3, -1}, {0, 11, 11, -1}, {0, 0, 0, -1}});
        check(machine, "branches", 0, 0, new int[][] {{0, 0, 0, -1}, {0, 14, 14, -1}, {0, 3, 3, -1}});
        GreenMachines chain = Due.built("p*9;p0*9;p1*9;p0*9;p1*9;p0*9;p1*9;p2*9");
        chain.set(5);
        for (int phase = 0; phase < 7; phase++) {
            chain.addRule(phase, phase + 1, 0);
        }
        Due.same("the longest chain, longest", chain.waitFor(2, 0, true), 98);
        Due.same("the longest chain, shortest", chain.waitFor(2, 0, false), 98);
        Due.same("the longest chain, rounds", chain.rounds(2), 0);
        Due.same("the longest chain, slowest", chain.slowest(), 2);
        chain.addRule(7, 0, 0);
        Due.same("the longest round, back", chain.waitFor(1, 7, true), 42);
        Due.same("the longest round, rounds", chain.rounds(3), 255);
    }

    /** After a change the proofs are those of the machine as it is then. */
    private static void nothingIsKept() {
        GreenMachines machine = Due.built("p0*1;p1*9;r0>1;r1>0");
        Due.same("before: longest", machine.waitFor(0, 1, true), 11);
        machine.change(1, 0b000011, 9);
        check(machine, "after", 0, 0, new int[][] {{0, 0, 0, -1}, {0, 0, 0, -1}});
        Due.same("after: slowest()", machine.slowest(), 1);
        machine.dropRule(0);
        check(machine, "without a rule", 1, 1, new int[][] {{1, -1, -1, 1}, {0, 0, 0, -1}});
        machine.start(1);
        machine.dropRule(1);
        Due.same("the round cannot come", machine.rounds(1), 0);
        Due.same("but from it somebody can starve", machine.starves(1, 0), 1);
        Due.same("remedy() is for what can come", machine.remedy(1, 0), -1);
    }

    /** The goal 1 would help from 0, but lets 2 come, from where the direction can starve. */
    private static void remedyMindsWhatCanCome() {
        GreenMachines machine = Due.built("p0*1;p*1;p2*1;p1*1;r1>3;r1>2;r3>0");
        check(machine, "remedy", 1, 0b0001, new int[][] {{1, -1, -1, 3}, {0, 3, 3, -1}, {1, -1, -1, -1}, {0, 0, 0, -1}});
        machine.dropRule(1);
        Due.same("remedy(1, 0) when 2 cannot come", machine.remedy(1, 0), 1);
        Due.same("remedy(1, 3) helps from another phase", machine.remedy(1, 3), -1);
        for (int rule = 0; rule < 4; rule++) {
            machine.addRule(0, 2, 0);
        }
        Due.same("remedy(1, 0) with 4 rules, one lets 2 come", machine.remedy(1, 0), -1);
        machine.change(2, 6, 1);
        Due.same("remedy(1, 0) with green in 2", machine.remedy(1, 0), -1);
        machine.change(2, 0, 1);
        machine.addRule(2, 0, 0);
        Due.same("remedy(1, 0) with a way from 2, with 4 rules", machine.remedy(1, 0), 1);
        Due.same("remedy(1, 2) with a way from 2", machine.remedy(1, 2), 1);
    }

    private static void slowest() {
        GreenMachines machine = new GreenMachines();
        Due.same("slowest() without phases", machine.slowest(), -1);
        machine.addPhase(0, 1);
        Due.same("slowest() without greens", machine.slowest(), -1);
        machine.change(0, 0b111000, 1);
        Due.same("slowest() of some that never wait", machine.slowest(), 3);
        GreenMachines turns = Due.built("p0*1;p1*1;r0>1;r1>0");
        Due.same("slowest() of several", turns.slowest(), 0);
        turns.change(0, 1, 2);
        Due.same("slowest() of turns", turns.slowest(), 1);
        GreenMachines coming = Due.built("p0*1;p1*9;r1>0");
        Due.same("slowest() minds the phases that can come", coming.slowest(), 0);
        coming.start(1);
        Due.same("slowest() passes over who can starve", coming.slowest(), 0);
        GreenMachines far = Due.built("p0*1;p1*1;p2*9;r0>1;r1>0;r2>0");
        Due.same("slowest() leaves out the phase 2", far.slowest(), 0);
        far.start(2);
        Due.same("slowest() with the phase 2", far.slowest(), 1);
        GreenMachines never = Due.built("p12*1;p0*1");
        Due.same("slowest() leaves out who is never green", never.slowest(), 1);
    }

    private static void safeShare() {
        GreenMachines machine = new GreenMachines();
        machine.clash(0, 1);
        Due.share("safeShare() without phases", machine.safeShare(), 1.0);
        for (int phases = 1; phases <= 8; phases++) {
            machine.addPhase(phases % 3 == 0 ? 1 : 3, 1);
            Due.share("safeShare() of " + phases, machine.safeShare(), (phases / 3) / (double) phases);
        }
        machine.clash(0, 1);
        Due.share("safeShare() without a clash", machine.safeShare(), 1.0);
    }
}
