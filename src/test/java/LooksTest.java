/** Promises 16 to 19: what can be looked at. */
final class LooksTest {
    private static final Class<IllegalArgumentException> ARGUMENT = IllegalArgumentException.class;
    private static final Class<IndexOutOfBoundsException> INDEX = IndexOutOfBoundsException.class;

    public static void main(String[] args) {
        phase();
        phasesThatCanCome();
        rule();
        direction();
        countPhases();
        countRunning();
        countStarving();
        Due.end();
    }

    private static void phase() {
        GreenMachines machine = Due.built("p02*3;p1*1;p13*9;p*2;r0>1?1;r1>0;r1>0?4;x02;x14");
        int[][] due = {{5, 3, 1, 1, 1, 0}, {2, 1, 2, 0, 1, 0}, {10, 9, 0, 0, 0, 0}, {0, 2, 0, 0, 0, 0}};
        checkPhases(machine, "phase", due);
        Due.thrown(machine, "phase(4, 0)", INDEX, () -> machine.phase(4, 0));
        Due.thrown(machine, "phase(-1, 6)", INDEX, () -> machine.phase(-1, 6));
        Due.thrown(machine, "phase(3, 6)", ARGUMENT, () -> machine.phase(3, 6));
        Due.thrown(machine, "phase(3, -1)", ARGUMENT, () -> machine.phase(3, -1));
        machine.come(1);
        machine.run(5);
        int[][] then = {{5, 3, 1, 1, 1, 0}, {2, 1, 2, 0, 1, 1}, {10, 9, 0, 0, 0, 0}, {0, 2, 0, 0, 0, 0}};
        checkPhases(machine, "phase after run(5)", then);
        machine.clash(0, 2);
        Due.same("phase(0, 3) without a clash", machine.phase(0, 3), 0);
        machine.clash(3, 1);
        Due.same("phase(2, 3) with a clash", machine.phase(2, 3), 1);
        machine.change(2, 0b000010, 9);
        Due.same("phase(2, 3) with one of them", machine.phase(2, 3), 0);
    }

    private static void checkPhases(GreenMachines machine, String name, int[][] due) {
        for (int phase = 0; phase < due.length; phase++) {
            for (int what = 0; what < due[phase].length; what++) {
                Due.same(name + "(" + phase + ", " + what + ")", machine.phase(phase, what), due[phase][what]);
            }
        }
    }

    private static void phasesThatCanCome() {
        GreenMachines machine = Due.built("p0*1;p1*1;p2*1;p3*1;r0>1;r0>2?0;r1>0;r3>0");
        checkComing(machine, 0b0111);
        machine.start(2);
        checkComing(machine, 0b0100);
        machine.start(3);
        checkComing(machine, 0b1111);
        machine.run(1);
        Due.same("clears to", machine.count(1), 0);
        checkComing(machine, 0b0111);
    }

    private static void checkComing(GreenMachines machine, int mask) {
        for (int phase = 0; phase < machine.count(0); phase++) {
            Due.same("phase(" + phase + ", 4)", machine.phase(phase, 4), mask >> phase & 1);
        }
        Due.same("count(7)", machine.count(7), Integer.bitCount(mask));
    }

    private static void rule() {
        GreenMachines machine = Due.built("p0*9;p1*1;r0>1?13;r0>1;r1>0?5");
        Due.same("rule(0, 0, 0)", machine.rule(0, 0, 0), 1);
        Due.same("rule(0, 0, 1)", machine.rule(0, 0, 1), 10);
        Due.same("rule(0, 0, 2)", machine.rule(0, 0, 2), 0);
        Due.same("rule(0, 1, 0)", machine.rule(0, 1, 0), 1);
        Due.same("rule(0, 1, 1)", machine.rule(0, 1, 1), 0);
        Due.same("rule(0, 1, 2)", machine.rule(0, 1, 2), 1);
        Due.same("rule(1, 0, 0)", machine.rule(1, 0, 0), 0);
        Due.same("rule(1, 0, 1)", machine.rule(1, 0, 1), 32);
        machine.come(3);
        Due.same("rule(0, 0, 2) when 3 waits", machine.rule(0, 0, 2), 1);
        Due.same("rule(1, 0, 2) when 3 waits", machine.rule(1, 0, 2), 0);
        machine.come(5);
        Due.same("rule(1, 0, 2) when 5 waits, in another phase", machine.rule(1, 0, 2), 1);
        Due.thrown(machine, "rule(2, 0, 0)", INDEX, () -> machine.rule(2, 0, 0));
        Due.thrown(machine, "rule(-1, 0, 0)", INDEX, () -> machine.rule(-1, 0, 0));
        Due.thrown(machine, "rule(0, 2, 3)", INDEX, () -> machine.rule(0, 2, 3));
        Due.thrown(machine, "rule(0, -1, 0)", INDEX, () -> machine.rule(0, -1, 0));
        Due.thrown(machine, "rule(1, 1, 0)", INDEX, () -> machine.rule(1, 1, 0));
        Due.thrown(machine, "rule(0, 0, 3)", ARGUMENT, () -> machine.rule(0, 0, 3));
        Due.thrown(machine, "rule(0, 0, -1)", ARGUMENT, () -> machine.rule(0, 0, -1));
    }

    private static void direction() {
        GreenMachines machine = Due.built("p0*1;p12*1;p02*1;r0>1;r1>2;r2>0;x12;x15");
        machine.come(1);
        machine.come(0);
        machine.run(2);
        int[][] due = {{0, -1, 0, 1, 0, 0b101}, {0, 2, 0b100100, 0, 0, 0b010}, {0, -1, 0b000010, 0, 0, 0b110},
            {0, -1, 0, 0, 0, 0}};
        for (int direction = 0; direction < due.length; direction++) {
            for (int what = 0; what <= 5; what++) {
                Due.same("direction(" + direction + ", " + what + ")",
                        machine.direction(direction, what), due[direction][what]);
            }
        }
        machine.run(2);
        Due.same("direction(1, 3)", machine.direction(1, 3), 1);
        Due.same("direction(1, 4)", machine.direction(1, 4), 3);
        Due.same("direction(2, 0) while clearing from 1 to 2", machine.direction(2, 0), 1);
        Due.same("direction(1, 0) while clearing from 1 to 2", machine.direction(1, 0), 0);
        machine.come(2);
        machine.run(1);
        machine.come(1);
        machine.run(8);
        Due.same("direction(1, 3) later", machine.direction(1, 3), 2);
        Due.same("direction(1, 4) later", machine.direction(1, 4), 7);
        Due.same("direction(2, 3) later", machine.direction(2, 3), 1);
        Due.thrown(machine, "direction(6, 0)", ARGUMENT, () -> machine.direction(6, 0));
        Due.thrown(machine, "direction(-1, 0)", ARGUMENT, () -> machine.direction(-1, 0));
        Due.thrown(machine, "direction(0, 6)", ARGUMENT, () -> machine.direction(0, 6));
        Due.thrown(machine, "direction(0, -1)", ARGUMENT, () -> machine.direction(0, -1));
    }

    private static void countPhases() {
        GreenMachines machine = Due.built("p02*1;p1*1;p23*1;p02*1;r0>1;r2>3;x02;x23");
        checkCounts(machine, "count", new int[] {4, 0, 0, 0, 5, 0, 3, 2, 1, 0, 0b111101, 1});
        machine.start(2);
        checkCounts(machine, "count from 2", new int[] {4, 2, 0, 0, 12, 0, 3, 2, 2, 0, 0b111010, 2});
        machine.clash(2, 3);
        machine.clash(1, 3);
        checkCounts(machine, "count from 2 with other clashes",
                new int[] {4, 2, 0, 0, 12, 0, 2, 2, 1, 0, 0b111010, 4});
        Due.thrown(machine, "count(12)", ARGUMENT, () -> machine.count(12));
        Due.thrown(machine, "count(-1)", ARGUMENT, () -> machine.count(-1));
    }

    private static void checkCounts(GreenMachines machine, String name, int[] due) {
        for (int what = 0; what < due.length; what++) {
            Due.same(name + "(" + what + ")", machine.count(what), due[what]);
        }
    }

    private static void countRunning() {
        GreenMachines machine = Due.built("p02*2;p12*3;r0>1;r1>0?0");
        machine.come(0);
        machine.come(1);
        machine.come(4);
        machine.run(1);
        checkCounts(machine, "count in a phase", new int[] {2, 0, 1, 0, 5, 0b010010, 0, 2, 0, 1, 0b111000, 5});
        machine.run(1);
        checkCounts(machine, "count while clearing", new int[] {2, 1, -1, 2, 4, 0b010010, 0, 2, 0, 2, 0b111000, 6});
        machine.run(2);
        checkCounts(machine, "count at its end", new int[] {2, 1, 0, 0, 6, 0b010010, 0, 2, 0, 4, 0b111000, 6});
    }

    /** 1 can starve in this machine, as nobody may wait in 0; of those without a green all can. */
    private static void countStarving() {
        GreenMachines machine = Due.built("p0*1;p1*1;r0>1?1;r1>0?0");
        Due.same("count(10)", machine.count(10), 0b111100);
        machine.addPhase(63, 1);
        Due.same("count(10) with a phase that cannot come", machine.count(10), 0b111100);
        machine.dropRule(0);
        Due.same("count(10) without the rule to 1", machine.count(10), 0b111110);
        machine.start(2);
        Due.same("count(10) with all green", machine.count(10), 0);
        machine.addRule(2, 1, 1);
        Due.same("count(10) with a way to 1", machine.count(10), 0b111110);
    }
}
