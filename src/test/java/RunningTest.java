/** Promises 8 to 10, and what happens when ticks go by. */
final class RunningTest {
    private static final Class<IllegalArgumentException> ARGUMENT = IllegalArgumentException.class;
    private static final Class<IndexOutOfBoundsException> INDEX = IndexOutOfBoundsException.class;

    public static void main(String[] args) {
        come();
        runArguments();
        runWithoutPhases();
        waitsAndGreens();
        clearing();
        greensWhileClearing();
        atOnce();
        firstRuleThatHolds();
        holdAtTheTick();
        start();
        Due.end();
    }

    private static void come() {
        GreenMachines machine = new GreenMachines();
        Due.same("come(5)", machine.come(5), 0);
        machine.run(7);
        Due.same("come(5) after 7 ticks", machine.come(5), 7);
        Due.same("come(0)", machine.come(0), 0);
        Due.same("somebody waits in", machine.count(5), 0b100001);
        Due.same("saved after come()", machine.count(11), 4);
        Due.thrown(machine, "come(-1)", ARGUMENT, () -> machine.come(-1));
        Due.thrown(machine, "come(6)", ARGUMENT, () -> machine.come(6));
        machine.undo();
        Due.same("somebody waits after undo() in", machine.count(5), 0b100000);
    }

    private static void runArguments() {
        GreenMachines machine = Due.built("p0*1");
        Due.same("run(1)", machine.run(1), 0);
        Due.same("run(99)", machine.run(99), 0);
        Due.same("ticks so far", machine.count(9), 100);
        Due.same("saved after run()", machine.count(11), 3);
        Due.thrown(machine, "run(0)", ARGUMENT, () -> machine.run(0));
        Due.thrown(machine, "run(100)", ARGUMENT, () -> machine.run(100));
        Due.thrown(machine, "run(-1)", ARGUMENT, () -> machine.run(-1));
        machine.undo();
        Due.same("ticks after undo()", machine.count(9), 1);
        Due.same("stayed after undo()", machine.count(2), 1);
    }

    private static void runWithoutPhases() {
        GreenMachines machine = new GreenMachines();
        machine.come(2);
        Due.same("run(5) without phases", machine.run(5), 1);
        Due.same("ticks without phases", machine.count(9), 5);
        Due.same("waited without phases", machine.direction(2, 1), 5);
        machine.addPhase(4, 9);
        Due.same("in the first phase for", machine.count(2), 0);
        Due.same("green then", machine.count(4), 4);
        Due.same("run(1) with it green", machine.run(1), 0);
        Due.same("the longest wait is without the last tick", machine.direction(2, 4), 5);
    }

    private static void waitsAndGreens() {
        GreenMachines machine = Due.built("p0*3;p1*2;r0>1?1;r1>0?0");
        machine.come(0);
        machine.come(1);
        Due.same("run(1): the green one waits no more", machine.run(1), 1);
        Due.same("0 got green, how often", machine.direction(0, 3), 1);
        Due.same("its wait was", machine.direction(0, 4), 0);
        Due.same("nobody waits in 0", machine.direction(0, 1), -1);
        Due.same("1 has been waiting for", machine.direction(1, 1), 1);
        Due.same("in 0 for", machine.count(2), 1);
        machine.run(2);
        Due.same("clears to", machine.count(1), 1);
        Due.same("1 has been waiting then for", machine.direction(1, 1), 3);
        machine.run(2);
        Due.same("in 1 for", machine.count(2), 0);
        Due.same("1 waits still", machine.direction(1, 1), 5);
        Due.same("1 is green", machine.direction(1, 0), 1);
        Due.same("run(1) in its green", machine.run(1), 0);
        Due.same("1 got green, how often", machine.direction(1, 3), 1);
        Due.same("its longest wait", machine.direction(1, 4), 5);
        machine.come(1);
        machine.run(1);
        Due.same("1 got green again", machine.direction(1, 3), 2);
        Due.same("the longest wait stays", machine.direction(1, 4), 5);
        Due.same("without askers waiting it stays", machine.count(2), 2);
        machine.run(90);
        Due.same("beyond the hold", machine.count(2), 92);
        machine.come(0);
        machine.run(1);
        Due.same("a rule is followed beyond the hold", machine.count(3), 2);
    }

    private static void clearing() {
        GreenMachines machine = Due.built("p0*1;p1*1;r0>1;r1>0");
        machine.set(3);
        machine.run(1);
        Due.same("clears to", machine.count(1), 1);
        Due.same("in no phase while clearing", machine.count(2), -1);
        Due.same("left", machine.count(3), 3);
        Due.same("nothing is green", machine.count(4), 0);
        Due.same("not counted while clearing", machine.phase(1, 5), 0);
        machine.run(2);
        Due.same("left after 2", machine.count(3), 1);
        machine.run(1);
        Due.same("not clearing", machine.count(3), 0);
        Due.same("in 1", machine.count(1), 1);
        Due.same("for 0 ticks", machine.count(2), 0);
        Due.same("counted when it is in it", machine.phase(1, 5), 1);
        machine.run(4);
        Due.same("came into 0", machine.phase(0, 5), 1);
        Due.same("came into 1", machine.phase(1, 5), 1);
    }

    private static void greensWhileClearing() {
        GreenMachines machine = Due.built("p02*1;p12*1;r0>1");
        machine.come(0);
        machine.come(1);
        machine.come(2);
        machine.set(5);
        machine.run(1);
        Due.same("green are the greens of both", machine.count(4), 4);
        Due.same("0 is green while clearing", machine.direction(0, 0), 0);
        Due.same("2 is green while clearing", machine.direction(2, 0), 1);
        machine.come(2);
        machine.come(0);
        machine.run(1);
        Due.same("2 got green while clearing", machine.direction(2, 3), 2);
        Due.same("0 waits", machine.direction(0, 1), 1);
        machine.change(0, 0b000111, 1);
        Due.same("the greens of both, as they are now", machine.count(4), 0b000110);
        machine.change(1, 0b000001, 1);
        Due.same("as they are now, again", machine.count(4), 1);
        machine.change(1, 0b000111, 1);
        Due.same("with the same greens it clears on", machine.count(3), 4);
        machine.run(1);
        Due.same("and on", machine.count(3), 3);
    }

    private static void atOnce() {
        GreenMachines machine = Due.built("p0*2;p1*1;p1*3;r0>1;r1>2;r2>0");
        machine.set(0);
        machine.run(2);
        Due.same("at once in 1", machine.count(1), 1);
        Due.same("for 0 ticks", machine.count(2), 0);
        Due.same("came into 1", machine.phase(1, 5), 1);
        machine.set(4);
        machine.run(1);
        Due.same("at once in 2, as the greens are the same", machine.count(1), 2);
        Due.same("for 0 ticks too", machine.count(2), 0);
        Due.same("without clearing", machine.count(3), 0);
        Due.same("came into 2", machine.phase(2, 5), 1);
        machine.run(3);
        Due.same("clears to 0", machine.count(3), 4);
    }

    private static void firstRuleThatHolds() {
        GreenMachines machine = Due.built("p0*1;p1*1;p2*1;p3*1;r0>1?12;r0>2?34;r0>3;r3>0;r2>0");
        machine.set(0);
        machine.run(1);
        Due.same("nobody waits: the rule without askers", machine.count(1), 3);
        machine.run(1);
        machine.come(4);
        machine.run(1);
        Due.same("4 waits: the second rule", machine.count(1), 2);
        machine.run(1);
        machine.come(2);
        machine.run(1);
        Due.same("4 and 2 wait: the first rule", machine.count(1), 1);
        machine.run(50);
        Due.same("no rule: it stays", machine.count(1), 1);
        GreenMachines own = Due.built("p0*1;p1*1;r0>1?0");
        own.come(0);
        own.run(1);
        Due.same("who got green in this tick asks no more", own.count(1), 0);
    }

    private static void holdAtTheTick() {
        GreenMachines machine = Due.built("p0*5;p1*1;r0>1;r1>0");
        machine.run(4);
        Due.same("stays until the hold", machine.count(2), 4);
        machine.change(0, 1, 2);
        Due.same("a shorter hold does not move it at once", machine.count(2), 4);
        machine.run(1);
        Due.same("but with the next tick", machine.count(3), 2);
        machine.undo();
        machine.change(0, 1, 9);
        machine.run(4);
        Due.same("a longer hold", machine.count(2), 8);
        machine.run(1);
        Due.same("and its end", machine.count(2), -1);
    }

    private static void start() {
        GreenMachines machine = Due.built("p0*1;p13*2;r0>1;r1>0");
        machine.come(2);
        machine.run(2);
        Due.same("clearing", machine.count(3), 1);
        Due.same("start(1)", machine.start(1), 0b001010);
        Due.same("in 1", machine.count(1), 1);
        Due.same("for 0 ticks", machine.count(2), 0);
        Due.same("it does not clear", machine.count(3), 0);
        Due.same("nobody waits", machine.count(5), 0);
        Due.same("the greens", machine.count(4), 0b001010);
        Due.same("it did not come by a rule", machine.phase(1, 5), 0);
        Due.same("2 did not get green", machine.direction(2, 3), 0);
        Due.same("ticks stay", machine.count(9), 2);
        Due.same("saved after start()", machine.count(11), 4);
        Due.thrown(machine, "start(2)", INDEX, () -> machine.start(2));
        Due.thrown(machine, "start(-1)", INDEX, () -> machine.start(-1));
        machine.undo();
        Due.same("clearing after undo()", machine.count(3), 1);
        Due.same("waiting after undo()", machine.direction(2, 1), 2);
        machine.run(1);
        Due.same("came into 1 by a rule", machine.phase(1, 5), 1);
        GreenMachines none = new GreenMachines();
        Due.thrown(none, "start(0) without phases", INDEX, () -> none.start(0));
    }
}
