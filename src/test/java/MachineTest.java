/** Promises 1 to 7: a new object, and how the machine is built. */
final class MachineTest {
    private static final Class<IllegalArgumentException> ARGUMENT = IllegalArgumentException.class;
    private static final Class<IllegalStateException> STATE = IllegalStateException.class;
    private static final Class<IndexOutOfBoundsException> INDEX = IndexOutOfBoundsException.class;

    public static void main(String[] args) {
        newObject();
        clash();
        addPhase();
        addRule();
        dropRule();
        change();
        set();
        Due.end();
    }

    private static void newObject() {
        GreenMachines machine = new GreenMachines();
        int[] counts = {0, -1, -1, 0, 0, 0, 0, 0, 0, 0, 0, 0};
        for (int what = 0; what < counts.length; what++) {
            Due.same("new: count(" + what + ")", machine.count(what), counts[what]);
        }
        int[] properties = {0, -1, 0, 0, 0, 0};
        for (int direction = 0; direction < 6; direction++) {
            for (int what = 0; what < properties.length; what++) {
                Due.same("new: direction(" + direction + ", " + what + ")",
                        machine.direction(direction, what), properties[what]);
            }
            Due.same("new: rounds(" + direction + ")", machine.rounds(direction), 0);
        }
        Due.same("new: firstError()", machine.firstError(), 0);
        Due.same("new: slowest()", machine.slowest(), -1);
        Due.share("new: safeShare()", machine.safeShare(), 1.0);
        Due.thrown(machine, "new: phase(0, 0)", INDEX, () -> machine.phase(0, 0));
        Due.thrown(machine, "new: undo()", STATE, machine::undo);
        Due.same("new: clearBuffer()", machine.clearBuffer(), 0);
        Due.same("new: set(3) answers the ticks of clearing", machine.set(3), 2);
    }

    private static void clash() {
        GreenMachines machine = new GreenMachines();
        Due.same("clash(0, 5)", machine.clash(0, 5), 1);
        Due.same("clash(3, 0)", machine.clash(3, 0), 1);
        Due.same("0 clashes with", machine.direction(0, 2), 0b101000);
        Due.same("3 clashes with", machine.direction(3, 2), 0b000001);
        Due.same("5 clashes with", machine.direction(5, 2), 0b000001);
        Due.same("4 clashes with", machine.direction(4, 2), 0);
        Due.same("clash(5, 0)", machine.clash(5, 0), 0);
        Due.same("0 clashes then with", machine.direction(0, 2), 0b001000);
        Due.same("5 clashes then with", machine.direction(5, 2), 0);
        Due.same("saved after clash()", machine.count(11), 3);
        int[][] wrong = {{-1, 0}, {6, 0}, {0, -1}, {0, 6}, {0, 0}, {5, 5}, {-1, -1},
            {Integer.MIN_VALUE, 1}, {1, Integer.MAX_VALUE}};
        for (int[] pair : wrong) {
            Due.thrown(machine, "clash(" + pair[0] + ", " + pair[1] + ")", ARGUMENT,
                    () -> machine.clash(pair[0], pair[1]));
        }
        Due.same("undo() of clash()", machine.undo(), 2);
        Due.same("0 clashes again with", machine.direction(0, 2), 0b101000);
    }

    private static void addPhase() {
        GreenMachines machine = new GreenMachines();
        int[][] wrong = {{-1, 1}, {64, 1}, {0, 0}, {0, 10}, {0, -1}, {Integer.MIN_VALUE, 5},
            {5, Integer.MAX_VALUE}};
        for (int[] pair : wrong) {
            Due.thrown(machine, "addPhase(" + pair[0] + ", " + pair[1] + ")", ARGUMENT,
                    () -> machine.addPhase(pair[0], pair[1]));
        }
        for (int phase = 0; phase < 8; phase++) {
            Due.same("addPhase() number " + phase, machine.addPhase(phase * 9, phase + 1), phase);
        }
        Due.same("the greens of 7", machine.phase(7, 0), 63);
        Due.same("the hold of 7", machine.phase(7, 1), 8);
        Due.same("the greens of 0", machine.phase(0, 0), 0);
        Due.same("the hold of 0", machine.phase(0, 1), 1);
        Due.same("the rules of 7", machine.phase(7, 2), 0);
        Due.same("phases", machine.count(0), 8);
        Due.same("the first phase is present", machine.count(1), 0);
        Due.same("for ticks", machine.count(2), 0);
        Due.same("saved after addPhase()", machine.count(11), 6);
        Due.thrown(machine, "addPhase(0, 9) as ninth", STATE, () -> machine.addPhase(0, 9));
        Due.thrown(machine, "addPhase(64, 9) as ninth", ARGUMENT, () -> machine.addPhase(64, 9));
        Due.thrown(machine, "addPhase(0, 0) as ninth", ARGUMENT, () -> machine.addPhase(0, 0));
        machine.undo();
        Due.same("addPhase() after undo()", machine.addPhase(1, 9), 7);
        Due.same("the hold of 7 then", machine.phase(7, 1), 9);
    }

    private static void addRule() {
        GreenMachines machine = new GreenMachines();
        Due.thrown(machine, "addRule(0, 0, 0) without phases", INDEX, () -> machine.addRule(0, 0, 0));
        machine.addPhase(1, 1);
        Due.thrown(machine, "addRule(0, 1, 0) without the goal", INDEX, () -> machine.addRule(0, 1, 0));
        Due.thrown(machine, "addRule(0, -1, 64)", INDEX, () -> machine.addRule(0, -1, 64));
        Due.thrown(machine, "addRule(1, 1, 64)", INDEX, () -> machine.addRule(1, 1, 64));
        Due.thrown(machine, "addRule(-1, 0, 0)", INDEX, () -> machine.addRule(-1, 0, 0));
        Due.thrown(machine, "addRule(0, 0, 0)", ARGUMENT, () -> machine.addRule(0, 0, 0));
        machine.addPhase(2, 1);
        machine.addPhase(4, 1);
        Due.thrown(machine, "addRule(0, 1, -1)", ARGUMENT, () -> machine.addRule(0, 1, -1));
        Due.thrown(machine, "addRule(0, 1, 64)", ARGUMENT, () -> machine.addRule(0, 1, 64));
        Due.same("addRule(1, 0, 63)", machine.addRule(1, 0, 63), 1);
        Due.same("addRule(1, 2, 0)", machine.addRule(1, 2, 0), 2);
        Due.same("addRule(1, 2, 0) again", machine.addRule(1, 2, 0), 3);
        Due.same("addRule(1, 0, 5)", machine.addRule(1, 0, 5), 4);
        Due.same("addRule(2, 0, 1)", machine.addRule(2, 0, 1), 1);
        Due.same("saved after addRule()", machine.count(11), 6);
        Due.same("the rules of 1", machine.phase(1, 2), 4);
        Due.same("the rules of 0", machine.phase(0, 2), 0);
        int[] goals = {0, 2, 2, 0};
        int[] askers = {63, 0, 0, 5};
        for (int rule = 0; rule < 4; rule++) {
            Due.same("the goal of 1, " + rule, machine.rule(1, rule, 0), goals[rule]);
            Due.same("the askers of 1, " + rule, machine.rule(1, rule, 1), askers[rule]);
        }
        Due.thrown(machine, "addRule(1, 0, 0) as fifth", STATE, () -> machine.addRule(1, 0, 0));
        Due.thrown(machine, "addRule(1, 1, 0) as fifth", ARGUMENT, () -> machine.addRule(1, 1, 0));
        Due.thrown(machine, "addRule(1, 0, 64) as fifth", ARGUMENT, () -> machine.addRule(1, 0, 64));
        Due.thrown(machine, "addRule(1, 3, 64) as fifth", INDEX, () -> machine.addRule(1, 3, 64));
        machine.undo();
        Due.same("the rules of 2 after undo()", machine.phase(2, 2), 0);
    }

    private static void dropRule() {
        GreenMachines machine = Due.built("p0*1;p1*1;p2*1;r0>1;r0>2?3;r2>0");
        Due.same("dropRule(0)", machine.dropRule(0), 2);
        Due.same("the rules left", machine.phase(0, 2), 1);
        Due.same("the goal of the one left", machine.rule(0, 0, 0), 1);
        Due.same("saved after dropRule()", machine.count(11), 2);
        Due.thrown(machine, "rule(0, 1, 0) after dropRule()", INDEX, () -> machine.rule(0, 1, 0));
        Due.same("dropRule(0) again", machine.dropRule(0), 1);
        Due.thrown(machine, "dropRule(0) without rules", STATE, () -> machine.dropRule(0));
        Due.thrown(machine, "dropRule(3)", INDEX, () -> machine.dropRule(3));
        Due.thrown(machine, "dropRule(-1)", INDEX, () -> machine.dropRule(-1));
        machine.undo();
        machine.undo();
        Due.same("the rules after undo()", machine.phase(0, 2), 2);
        Due.same("the askers after undo()", machine.rule(0, 1, 1), 8);
        Due.same("addRule() behind the last one", machine.addRule(0, 1, 2), 3);
    }

    private static void change() {
        GreenMachines machine = Due.built("p03*4;p1*1;r0>1?2");
        Due.same("change(0, 63, 9)", machine.change(0, 63, 9), 9);
        Due.same("change(0, 0, 1)", machine.change(0, 0, 1), 63);
        Due.same("the greens then", machine.phase(0, 0), 0);
        Due.same("the hold then", machine.phase(0, 1), 1);
        Due.same("the rules stay", machine.phase(0, 2), 1);
        Due.same("the other phase's greens stay", machine.phase(1, 0), 2);
        Due.same("saved after change()", machine.count(11), 3);
        Due.same("change(0, 0, 1) that changes nothing", machine.change(0, 0, 1), 0);
        Due.same("is saved too", machine.count(11), 4);
        Due.thrown(machine, "change(2, 64, 0)", INDEX, () -> machine.change(2, 64, 0));
        Due.thrown(machine, "change(-1, 0, 1)", INDEX, () -> machine.change(-1, 0, 1));
        Due.thrown(machine, "change(0, 64, 1)", ARGUMENT, () -> machine.change(0, 64, 1));
        Due.thrown(machine, "change(0, -1, 1)", ARGUMENT, () -> machine.change(0, -1, 1));
        Due.thrown(machine, "change(0, 0, 0)", ARGUMENT, () -> machine.change(0, 0, 0));
        Due.thrown(machine, "change(0, 0, 10)", ARGUMENT, () -> machine.change(0, 0, 10));
        machine.undo();
        machine.undo();
        machine.undo();
        Due.same("the greens after undo()", machine.phase(0, 0), 9);
        Due.same("the hold after undo()", machine.phase(0, 1), 4);
    }

    private static void set() {
        GreenMachines machine = Due.built("p0*1;p1*1;r0>1;r1>0");
        Due.same("set(5)", machine.set(5), 2);
        Due.same("set(0)", machine.set(0), 5);
        Due.same("set(0) again", machine.set(0), 0);
        Due.same("saved after set()", machine.count(11), 4);
        machine.undo();
        Due.same("set(4)", machine.set(4), 0);
        Due.thrown(machine, "set(-1)", ARGUMENT, () -> machine.set(-1));
        Due.thrown(machine, "set(6)", ARGUMENT, () -> machine.set(6));
        machine.run(1);
        Due.same("clearing for", machine.count(3), 4);
        machine.set(1);
        Due.same("a clearing that goes on is left as it is", machine.count(3), 4);
        machine.run(4);
        Due.same("in 1 then", machine.count(1), 1);
        machine.run(1);
        Due.same("the next clearing is for", machine.count(3), 1);
    }
}
