/** 'Undo', 'Exceptions' and promise 15: a test for each edge. */
final class EdgesOfUndoTest {
    private static final Class<IllegalArgumentException> ARGUMENT = IllegalArgumentException.class;
    private static final Class<IllegalStateException> STATE = IllegalStateException.class;
    private static final Class<IndexOutOfBoundsException> INDEX = IndexOutOfBoundsException.class;
    /** Two phases, the first one with 4 rules, the other one with one rule. */
    private static final String TEXT = "p02*2;p13*3;r0>1?1;r0>1?2;r0>1;r0>1;r1>0?0;x02";
    private static final int UNDOABLE = 10;

    public static void main(String[] args) {
        eachUndoableCall();
        eachUndoableCallThatChangesNothing();
        countsAreSaved();
        clearingIsSaved();
        rulesAreSaved();
        bufferIsNotSaved();
        savedStatesAreNotSaved();
        otherCallsSaveNothing();
        sixStatesAtMost();
        oldestIsDropped();
        statesGoRound();
        runIsOneCall();
        buildIsOneCall();
        undoWithoutStates();
        refusedCallsChangeNothing();
        refusedCallsDropNothing();
        firstNamedException();
        masks();
        Due.end();
    }

    private static long undoable(GreenMachines machine, int kind) {
        switch (kind) {
            case 0:
                return machine.clash(4, 5);
            case 1:
                return machine.addPhase(60, 7);
            case 2:
                return machine.addRule(1, 0, 33);
            case 3:
                return machine.dropRule(0);
            case 4:
                return machine.change(1, 5, 1);
            case 5:
                return machine.set(5);
            case 6:
                return machine.come(4);
            case 7:
                return machine.run(7);
            case 8:
                return machine.start(1);
            default:
                return machine.build();
        }
    }

    private static void eachUndoableCall() {
        Due.says("Each method that is marked \"undoable\" saves the state from before it");
        for (int kind = 0; kind < UNDOABLE; kind++) {
            GreenMachines machine = Due.builtUnsaved(TEXT);
            machine.come(1);
            machine.run(3);
            machine.undo();
            machine.undo();
            long before = machine.digest();
            Due.type(machine, "p*1;x05");
            undoable(machine, kind);
            Due.same("saved states after undoable call " + kind, machine.count(11), 1);
            machine.clearBuffer();
            Due.same("undo() of call " + kind + " changes something", machine.digest() == before ? 1 : 0, 0);
            Due.same("undo() of call " + kind, machine.undo(), 0);
            Due.same("the state from before call " + kind, machine.digest(), before);
        }
    }

    private static long undoableForNothing(GreenMachines machine, int kind) {
        switch (kind) {
            case 0:
                return machine.change(1, 0b001010, 3);
            case 1:
                return machine.set(2);
            case 2:
                return machine.come(4);
            case 3:
                return machine.start(0);
            default:
                Due.type(machine, "r7>0;p*1");
                return machine.build();
        }
    }

    private static void eachUndoableCallThatChangesNothing() {
        Due.says("saves the state from before it (also if it changes nothing)");
        for (int kind = 0; kind < 5; kind++) {
            GreenMachines machine = Due.builtUnsaved(TEXT);
            if (kind == 2) {
                machine.come(4);
            }
            int saved = machine.count(11);
            long before = machine.digest();
            undoableForNothing(machine, kind);
            Due.same("saved states after call " + kind + " for nothing", machine.count(11), saved + 1);
            Due.same("undo() of call " + kind + " for nothing", machine.undo(), saved);
            Due.same("the state as it was all the time, " + kind, machine.digest(), before);
        }
    }

    private static void countsAreSaved() {
        Due.says("saves the state: all, also what is counted so far");
        GreenMachines machine = Due.built("p0*1;p1*1;r0>1;r1>0");
        machine.come(1);
        machine.run(4);
        machine.come(1);
        checkCounts(machine, "first", new int[] {4, 1, 0, 1, 3, 0});
        machine.run(60);
        checkCounts(machine, "later", new int[] {64, 11, 10, 2, 5, -1});
        machine.undo();
        checkCounts(machine, "first again", new int[] {4, 1, 0, 1, 3, 0});
        machine.undo();
        machine.undo();
        checkCounts(machine, "ahead of it", new int[] {0, 0, 0, 0, 0, 0});
    }

    /** Ticks, how often phase 1 and 0 came, of direction 1 how often it got green, longest wait, wait. */
    private static void checkCounts(GreenMachines machine, String name, int[] due) {
        Due.same(name + ": count(9)", machine.count(9), due[0]);
        Due.same(name + ": phase(1, 5)", machine.phase(1, 5), due[1]);
        Due.same(name + ": phase(0, 5)", machine.phase(0, 5), due[2]);
        Due.same(name + ": direction(1, 3)", machine.direction(1, 3), due[3]);
        Due.same(name + ": direction(1, 4)", machine.direction(1, 4), due[4]);
        Due.same(name + ": direction(1, 1)", machine.direction(1, 1), due[5]);
    }

    private static void clearingIsSaved() {
        Due.says("saves the state: all, also a clearing that goes on, with the phase that it leaves");
        GreenMachines machine = Due.built("p01*1;p03*9;p3*1;r0>1;r2>1");
        machine.set(5);
        machine.run(2);
        machine.start(2);
        machine.run(3);
        Due.same("left from 2 to 1", machine.count(3), 3);
        Due.same("green from 2 to 1", machine.count(4), 0b001000);
        machine.undo();
        machine.undo();
        Due.same("left from 0 to 1", machine.count(3), 4);
        Due.same("green from 0 to 1", machine.count(4), 0b000001);
        machine.run(4);
        Due.same("then in 1", machine.count(2), 0);
    }

    private static void rulesAreSaved() {
        Due.says("saves the state: all, also rules and phases that others have taken the place of");
        GreenMachines machine = Due.built("p0*1;p1*2;p2*3;r0>1?3");
        machine.dropRule(0);
        machine.addRule(0, 2, 32);
        machine.undo();
        machine.undo();
        Due.same("goal of the rule", machine.rule(0, 0, 0), 1);
        Due.same("askers of the rule", machine.rule(0, 0, 1), 8);
        machine.addPhase(8, 4);
        machine.addRule(3, 0, 5);
        machine.undo();
        machine.undo();
        machine.addPhase(16, 5);
        Due.same("greens of the other phase", machine.phase(3, 0), 16);
        Due.same("hold of the other phase", machine.phase(3, 1), 5);
        Due.same("rules of the other phase", machine.phase(3, 2), 0);
    }

    private static void bufferIsNotSaved() {
        Due.says("saves the state: all, but the buffer");
        GreenMachines machine = new GreenMachines();
        Due.type(machine, "p1");
        machine.addPhase(1, 1);
        Due.type(machine, "*");
        machine.undo();
        Due.same("append() behind undo()", machine.append('5'), 4);
        Due.same("build()", machine.build(), 1);
        machine.undo();
        Due.same("clearBuffer() behind undo() of build()", machine.clearBuffer(), 0);
        machine.clash(0, 1);
        Due.type(machine, "x");
        machine.clash(0, 1);
        machine.clearBuffer();
        machine.undo();
        Due.same("clearBuffer() behind clearBuffer() and undo()", machine.clearBuffer(), 0);
    }

    private static void savedStatesAreNotSaved() {
        Due.says("saves the state: all, but the saved states");
        GreenMachines machine = new GreenMachines();
        machine.set(1);
        machine.set(3);
        machine.set(4);
        Due.same("undo() leaves", machine.undo(), 2);
        Due.same("undo() leaves then", machine.undo(), 1);
        Due.same("set(5) behind them answers", machine.set(5), 1);
        Due.same("count(11)", machine.count(11), 2);
        Due.same("undo() leaves one", machine.undo(), 1);
        Due.same("undo() leaves none", machine.undo(), 0);
        Due.same("set(5) answers", machine.set(5), 2);
    }

    private static void otherCallsSaveNothing() {
        Due.says("Each method that is marked \"undoable\" saves: the others do not");
        GreenMachines machine = Due.builtUnsaved(TEXT);
        machine.append('p');
        machine.firstError();
        machine.clearBuffer();
        machine.phase(0, 4);
        machine.rule(0, 0, 2);
        machine.direction(0, 5);
        machine.count(10);
        machine.starves(0, 0);
        machine.rounds(0);
        machine.waitFor(0, 0, true);
        machine.slowest();
        machine.remedy(0, 0);
        machine.safeShare();
        machine.digest();
        Due.same("count(11)", machine.count(11), 0);
        Due.thrown(machine, "undo()", STATE, machine::undo);
    }

    private static void sixStatesAtMost() {
        Due.says("At most 6 states are saved");
        GreenMachines machine = new GreenMachines();
        for (int call = 1; call <= 9; call++) {
            machine.run(1);
            Due.same("saved states after " + call, machine.count(11), call < 6 ? call : 6);
        }
    }

    private static void oldestIsDropped() {
        Due.says("the oldest one is dropped first");
        GreenMachines six = new GreenMachines();
        GreenMachines seven = new GreenMachines();
        seven.run(1);
        for (int call = 0; call < 6; call++) {
            six.run(1);
            seven.run(1);
        }
        for (int left = 5; left >= 0; left--) {
            Due.same("undo() of six", six.undo(), left);
            Due.same("ticks of six", six.count(9), left);
            Due.same("undo() of seven", seven.undo(), left);
            Due.same("ticks of seven", seven.count(9), left + 1);
        }
    }

    private static void statesGoRound() {
        Due.says("At most 6 states are saved; the oldest one is dropped first: many times round");
        GreenMachines machine = new GreenMachines();
        int ticks = 0;
        for (int round = 0; round < 15; round++) {
            for (int call = 0; call < 5 + round % 4; call++) {
                machine.run(1);
                ticks++;
            }
            for (int call = 0; call < 1 + round % 3; call++) {
                machine.undo();
                ticks--;
                Due.same("ticks in round " + round, machine.count(9), ticks);
            }
        }
        int saved = machine.count(11);
        for (int left = saved - 1; left >= 0; left--) {
            Due.same("undo() at the end", machine.undo(), left);
            ticks--;
            Due.same("ticks at the end", machine.count(9), ticks);
        }
        Due.thrown(machine, "undo() behind the end", STATE, machine::undo);
    }

    private static void runIsOneCall() {
        Due.says("run: Undoable, as one call");
        GreenMachines machine = Due.builtUnsaved("p0*1;p1*1;r0>1;r1>0");
        long before = machine.digest();
        machine.run(99);
        Due.same("count(11)", machine.count(11), 1);
        Due.same("undo()", machine.undo(), 0);
        Due.same("the state from before it", machine.digest(), before);
    }

    private static void buildIsOneCall() {
        Due.says("build: Undoable, as one call, also if none is done");
        GreenMachines machine = new GreenMachines();
        long before = machine.digest();
        Due.type(machine, "p0*1;p1*1;r0>1;r1>0;x01;r0>0;p2*1");
        Due.same("build()", machine.build(), 5);
        Due.same("count(11)", machine.count(11), 1);
        Due.same("undo()", machine.undo(), 0);
        Due.same("the state from before it", machine.digest(), before);
        Due.type(machine, "r0>1;x01");
        Due.same("build() that does none", machine.build(), 0);
        Due.same("count(11) then", machine.count(11), 1);
        Due.same("undo() then", machine.undo(), 0);
        Due.same("the state from before that", machine.digest(), before);
    }

    private static void undoWithoutStates() {
        Due.says("undo: IllegalStateException if there is none");
        GreenMachines machine = new GreenMachines();
        Due.thrown(machine, "undo() of a new object", STATE, machine::undo);
        machine.run(1);
        Due.says("undo: Returns how many saved states are left");
        Due.same("undo() of the only one", machine.undo(), 0);
        Due.says("undo: Restores the latest saved state, and drops it");
        Due.thrown(machine, "undo() again", STATE, machine::undo);
        Due.same("ticks", machine.count(9), 0);
    }

    /** Every call that can be refused, refused, on a machine with 8 phases and a full buffer. */
    private static void refuseAll(GreenMachines machine) {
        Due.thrown(machine, "clash(1, 1)", ARGUMENT, () -> machine.clash(1, 1));
        Due.thrown(machine, "addPhase(1, 1)", STATE, () -> machine.addPhase(1, 1));
        Due.thrown(machine, "addPhase(64, 1)", ARGUMENT, () -> machine.addPhase(64, 1));
        Due.thrown(machine, "addRule(0, 1, 0)", STATE, () -> machine.addRule(0, 1, 0));
        Due.thrown(machine, "addRule(1, 0, 64)", ARGUMENT, () -> machine.addRule(1, 0, 64));
        Due.thrown(machine, "addRule(1, 8, 0)", INDEX, () -> machine.addRule(1, 8, 0));
        Due.thrown(machine, "dropRule(2)", STATE, () -> machine.dropRule(2));
        Due.thrown(machine, "dropRule(8)", INDEX, () -> machine.dropRule(8));
        Due.thrown(machine, "change(0, 1, 10)", ARGUMENT, () -> machine.change(0, 1, 10));
        Due.thrown(machine, "change(8, 1, 1)", INDEX, () -> machine.change(8, 1, 1));
        Due.thrown(machine, "set(6)", ARGUMENT, () -> machine.set(6));
        Due.thrown(machine, "come(6)", ARGUMENT, () -> machine.come(6));
        Due.thrown(machine, "run(100)", ARGUMENT, () -> machine.run(100));
        Due.thrown(machine, "start(8)", INDEX, () -> machine.start(8));
        Due.thrown(machine, "append('p')", STATE, () -> machine.append('p'));
        Due.thrown(machine, "build()", ARGUMENT, machine::build);
    }

    /** 8 phases, clearing, somebody waits, six different saved states, 60 characters that are no text. */
    private static GreenMachines full() {
        GreenMachines machine = Due.built("p0*1;p1*1;p*1;p*1;p*1;p*1;p*1;p*1;r0>1?5");
        machine.addRule(0, 1, 1);
        machine.addRule(0, 1, 2);
        machine.addRule(0, 1, 0);
        machine.come(2);
        machine.come(3);
        machine.run(2);
        machine.clash(4, 5);
        for (int place = 0; place < 60; place++) {
            machine.append('p');
        }
        return machine;
    }

    private static void refusedCallsChangeNothing() {
        Due.says("A call that throws an exception changes nothing: not the saved states either");
        GreenMachines refused = full();
        GreenMachines twin = full();
        refuseAll(refused);
        for (int left = 5; left >= 0; left--) {
            Due.same("the digest ahead of undo()", refused.digest(), twin.digest());
            Due.same("undo()", refused.undo(), left);
            Due.same("undo() of the twin", twin.undo(), left);
        }
        Due.same("the digest at the end", refused.digest(), twin.digest());
        Due.thrown(refused, "undo() at the end", STATE, refused::undo);
    }

    private static void refusedCallsDropNothing() {
        Due.says("Each method that does not throw an exception saves the state: one that throws does not");
        GreenMachines machine = Due.builtUnsaved("p0*1;p1*1;p*1;p*1;p*1;p*1;p*1;p*1;r0>1");
        for (int rule = 0; rule < 3; rule++) {
            machine.addRule(0, 1, 0);
        }
        for (int rule = 0; rule < 60; rule++) {
            machine.append('p');
        }
        refuseAll(machine);
        Due.same("count(11)", machine.count(11), 3);
        Due.same("undo() of a rule", machine.undo(), 2);
        Due.same("rules left", machine.phase(0, 2), 3);
    }

    private static void firstNamedException() {
        Due.says("If several exceptions apply, the one that is named first in the throws clause is thrown");
        GreenMachines machine = full();
        Due.thrown(machine, "addPhase(64, 1) as ninth", ARGUMENT, () -> machine.addPhase(64, 1));
        Due.thrown(machine, "addPhase(0, 10) as ninth", ARGUMENT, () -> machine.addPhase(0, 10));
        Due.thrown(machine, "addRule(8, 8, 64)", INDEX, () -> machine.addRule(8, 8, 64));
        Due.thrown(machine, "addRule(0, 8, 64) as fifth", INDEX, () -> machine.addRule(0, 8, 64));
        Due.thrown(machine, "addRule(0, 0, 0) as fifth", ARGUMENT, () -> machine.addRule(0, 0, 0));
        Due.thrown(machine, "addRule(0, 1, 64) as fifth", ARGUMENT, () -> machine.addRule(0, 1, 64));
        Due.thrown(machine, "change(8, 64, 0)", INDEX, () -> machine.change(8, 64, 0));
        Due.thrown(machine, "append(32) as 61st", ARGUMENT, () -> machine.append(32));
        Due.thrown(machine, "append(127) as 61st", ARGUMENT, () -> machine.append(127));
        Due.thrown(machine, "phase(8, 6)", INDEX, () -> machine.phase(8, 6));
        Due.thrown(machine, "rule(8, 0, 3)", INDEX, () -> machine.rule(8, 0, 3));
        Due.thrown(machine, "rule(0, 4, 3)", INDEX, () -> machine.rule(0, 4, 3));
        Due.thrown(machine, "starves(6, 8)", INDEX, () -> machine.starves(6, 8));
        Due.thrown(machine, "waitFor(6, 8, true)", INDEX, () -> machine.waitFor(6, 8, true));
        Due.thrown(machine, "waitFor(6, 8, false)", INDEX, () -> machine.waitFor(6, 8, false));
        Due.thrown(machine, "remedy(6, 8)", INDEX, () -> machine.remedy(6, 8));
        GreenMachines none = new GreenMachines();
        Due.thrown(none, "starves(-1, 0) without phases", INDEX, () -> none.starves(-1, 0));
        Due.thrown(none, "dropRule(0) without phases", INDEX, () -> none.dropRule(0));
    }

    private static void masks() {
        Due.says("Some directions are told as a mask, 0 to 63: bit k for the direction k");
        GreenMachines machine = new GreenMachines();
        for (int direction = 0; direction < 6; direction++) {
            machine.addPhase(1 << direction, 1);
        }
        for (int direction = 0; direction < 6; direction++) {
            Due.same("phases with " + direction, machine.direction(direction, 5), 1 << direction);
            machine.start(direction);
            Due.same("green in " + direction, machine.direction(direction, 0), 1);
            machine.come(direction);
            Due.same("waiting in " + direction, machine.count(5), 1 << direction);
            machine.addRule(5 - direction, direction, 1 << direction);
            Due.same("asked by " + direction, machine.rule(5 - direction, 0, 2), 1);
        }
    }
}
