/** Promise 15: undo, in the midst of other calls; EdgesOfUndoTest has its edges. */
final class UndoTest {
    private static final Class<IllegalStateException> STATE = IllegalStateException.class;

    public static void main(String[] args) {
        sixStates();
        allIsRestored();
        clearingIsRestored();
        Due.end();
    }

    private static void sixStates() {
        GreenMachines machine = new GreenMachines();
        for (int phase = 0; phase < 8; phase++) {
            machine.addPhase(phase, 1);
        }
        for (int left = 5; left >= 0; left--) {
            Due.same("undo() with left", machine.undo(), left);
            Due.same("phases then", machine.count(0), 2 + left);
        }
        Due.thrown(machine, "undo() without a state", STATE, machine::undo);
        Due.same("the oldest ones are dropped", machine.count(0), 2);
        machine.clash(0, 1);
        machine.clash(0, 2);
        Due.same("undo() among new ones", machine.undo(), 1);
        machine.clash(0, 3);
        Due.same("0 clashes with", machine.direction(0, 2), 0b001010);
        Due.same("undo()", machine.undo(), 1);
        Due.same("undo() of the first", machine.undo(), 0);
        Due.same("0 clashes with none", machine.direction(0, 2), 0);
    }

    /** Each undoable call in the midst of others: behind its undo() the digest is that of a machine without it. */
    private static void allIsRestored() {
        for (int step = 0; step < 60; step++) {
            GreenMachines without = acted(step);
            without.clash(4, 5);
            without.undo();
            GreenMachines undone = acted(step);
            act(undone, step);
            undone.undo();
            Due.same("digest() behind undo() of step " + step, undone.digest(), without.digest());
        }
    }

    private static GreenMachines acted(int steps) {
        GreenMachines machine = Due.built("p0*2;p1*3;p24*1;r0>1?1;r0>2;r1>2?2;r1>0;r2>0;x02");
        machine.come(1);
        machine.run(3);
        for (int step = 0; step < steps; step++) {
            act(machine, step);
        }
        return machine;
    }

    private static void act(GreenMachines machine, int step) {
        int phases = machine.count(0);
        switch (step % 10) {
            case 0:
                machine.clash(step % 3, 3 + step % 2);
                break;
            case 1:
                machine.come(step / 10);
                break;
            case 2:
                machine.run(1 + step / 10);
                break;
            case 3:
                machine.change(step % phases, step, 1 + step % 9);
                break;
            case 4:
                machine.set(step % 6);
                break;
            case 5:
                machine.dropRule(0);
                break;
            case 6:
                machine.addRule(0, 1 + step / 10 % 2, step % 7);
                break;
            case 7:
                machine.run(17);
                break;
            case 8:
                Due.type(machine, "p135*4;x03;r2>3");
                machine.build();
                break;
            default:
                machine.start(step % phases);
                break;
        }
    }

    private static void clearingIsRestored() {
        GreenMachines machine = Due.built("p01*1;p03*1;p3*1;r0>1;r1>2");
        machine.run(1);
        Due.same("clears from 0 to 1, with the greens", machine.count(4), 0b000001);
        machine.run(3);
        Due.same("clears from 1 to 2, with the greens", machine.count(4), 0b001000);
        machine.undo();
        Due.same("clears from 0 to 1 again, with the greens", machine.count(4), 0b000001);
    }
}
