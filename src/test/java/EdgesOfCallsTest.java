import java.math.BigInteger;

/** Promises 1 to 10: a test for each edge that they name. */
final class EdgesOfCallsTest {
    private static final Class<IllegalArgumentException> ARGUMENT = IllegalArgumentException.class;
    private static final Class<IllegalStateException> STATE = IllegalStateException.class;
    private static final Class<IndexOutOfBoundsException> INDEX = IndexOutOfBoundsException.class;
    private static final int NONE = GreenMachines.NONE;
    private static final String EIGHT = "p*1;p*1;p*1;p*1;p*1;p*1;p*1;p*1";

    public static void main(String[] args) {
        newObject();
        objectsApart();
        clashRange();
        clashWithItself();
        clashTurns();
        addPhaseRange();
        addPhaseWhenFull();
        addPhaseWithoutRules();
        addRulePhases();
        addRuleToItself();
        addRuleAskers();
        addRuleWhenFull();
        dropRuleOfNone();
        dropRuleTakesTheLast();
        changeRange();
        changeOfPresent();
        setRange();
        setWhileClearing();
        comeRange();
        comeWhenSomebodyWaits();
        comeWhenGreen();
        runRange();
        runCountsWho();
        startRange();
        startWhileClearing();
        startAgain();
        Due.end();
    }

    private static void newObject() {
        Due.says("Promise 1: a machine without phases, with an empty buffer");
        GreenMachines machine = new GreenMachines();
        Due.same("count(0)", machine.count(0), 0);
        Due.same("count(11)", machine.count(11), 0);
        Due.same("clearBuffer()", machine.clearBuffer(), 0);
        // count(0) to (11), ticks of clearing, six directions with rounds, slowest, 1.0, the buffer's length
        long[] counts = {0, -1, -1, 0, 0, 0, 0, 0, 0, 0, 0, 0, 2};
        long[] direction = {0, -1, 0, 0, 0, 0, 0};
        BigInteger hash = hashed(BigInteger.valueOf(2803), counts);
        for (int time = 0; time < 6; time++) {
            hash = hashed(hash, direction);
        }
        hash = hashed(hash, new long[] {-1, 0x3ff0000000000000L, 0});
        Due.same("the hash is beyond a long", hash.bitLength() > 64 ? 1 : 0, 1);
        Due.same("digest()", machine.digest(), hash.longValue());
    }

    private static BigInteger hashed(BigInteger before, long[] values) {
        BigInteger hash = before;
        for (long value : values) {
            hash = hash.multiply(BigInteger.valueOf(31)).add(BigInteger.valueOf(value));
        }
        return hash;
    }

    private static void objectsApart() {
        Due.says("Promise 1: each new object is one of its own");
        GreenMachines one = new GreenMachines();
        long before = one.digest();
        GreenMachines other = Due.built("p0*1;p1*1;r0>1;x01");
        other.set(5);
        other.come(3);
        other.run(2);
        other.append('p');
        Due.same("digest() of one", one.digest(), before);
        Due.same("digest() of a third", new GreenMachines().digest(), before);
        one.addPhase(0, 9);
        Due.same("phases of the other", other.count(0), 2);
    }

    private static void clashRange() {
        Due.says("Promise 2: one: 0 to 5; other: 0 to 5");
        for (int one = 0; one < 6; one++) {
            for (int other = 0; other < 6; other++) {
                if (one != other) {
                    Due.same("clash(" + one + ", " + other + ")", new GreenMachines().clash(one, other), 1);
                }
            }
        }
        GreenMachines machine = new GreenMachines();
        Due.outside(machine, "clash(one, 3)", ARGUMENT, 0, 5, number -> machine.clash(number, 3));
        Due.outside(machine, "clash(3, other)", ARGUMENT, 0, 5, number -> machine.clash(3, number));
        Due.outside(machine, "clash(both)", ARGUMENT, 0, 5, number -> machine.clash(number, number));
    }

    private static void clashWithItself() {
        Due.says("Promise 2: other: another one; IllegalArgumentException if both are the same");
        GreenMachines machine = new GreenMachines();
        for (int direction = 0; direction < 6; direction++) {
            int both = direction;
            Due.thrown(machine, "clash() of " + both, ARGUMENT, () -> machine.clash(both, both));
        }
    }

    private static void clashTurns() {
        Due.says("Promise 2: Lets two directions clash, or not any more, if they do; 1 if they clash then");
        GreenMachines machine = new GreenMachines();
        Due.same("clash(0, 5)", machine.clash(0, 5), 1);
        Due.same("0 with", machine.direction(0, 2), 0b100000);
        Due.same("5 with", machine.direction(5, 2), 0b000001);
        Due.same("clash(5, 0)", machine.clash(5, 0), 0);
        Due.same("0 with, not any more", machine.direction(0, 2), 0);
        Due.same("5 with, not any more", machine.direction(5, 2), 0);
        Due.same("clash(5, 0) again", machine.clash(5, 0), 1);
        Due.same("clash(5, 1)", machine.clash(5, 1), 1);
        Due.same("clash(0, 5) again", machine.clash(0, 5), 0);
        Due.same("5 with the other one", machine.direction(5, 2), 0b000010);
    }

    private static void addPhaseRange() {
        Due.says("Promise 3: greens: 0 to 63; hold: 1 to 9");
        GreenMachines machine = new GreenMachines();
        Due.same("addPhase(0, 1)", machine.addPhase(0, 1), 0);
        Due.same("addPhase(63, 9)", machine.addPhase(63, 9), 1);
        Due.same("greens of 0", machine.phase(0, 0), 0);
        Due.same("greens of 1", machine.phase(1, 0), 63);
        Due.same("hold of 0", machine.phase(0, 1), 1);
        Due.same("hold of 1", machine.phase(1, 1), 9);
        Due.outside(machine, "addPhase(greens, 1)", ARGUMENT, 0, 63, number -> machine.addPhase(number, 1));
        Due.outside(machine, "addPhase(0, hold)", ARGUMENT, 1, 9, number -> machine.addPhase(0, number));
    }

    private static void addPhaseWhenFull() {
        Due.says("Promise 3: IllegalStateException if there are 8 phases");
        GreenMachines machine = Due.built("p*1;p*1;p*1;p*1;p*1;p*1;p*1");
        Due.same("addPhase() as eighth", machine.addPhase(63, 9), 7);
        Due.thrown(machine, "addPhase() as ninth", STATE, () -> machine.addPhase(63, 9));
        Due.same("start(7)", machine.start(7), 63);
        machine.undo();
        machine.undo();
        Due.same("phases without it", machine.count(0), 7);
        Due.same("addPhase() as eighth again", machine.addPhase(1, 2), 7);
    }

    private static void addPhaseWithoutRules() {
        Due.says("Promise 3: Adds a phase without rules");
        GreenMachines machine = Due.built("p0*1");
        machine.addPhase(2, 1);
        machine.addRule(1, 0, 0);
        machine.undo();
        machine.undo();
        machine.addPhase(4, 1);
        Due.same("rules of the new one", machine.phase(1, 2), 0);
        Due.same("how often it came", machine.phase(1, 5), 0);
        Due.thrown(machine, "rule(1, 0, 0)", INDEX, () -> machine.rule(1, 0, 0));
    }

    private static void addRulePhases() {
        Due.says("Promise 4: IndexOutOfBoundsException if there is no such phase");
        GreenMachines none = new GreenMachines();
        Due.thrown(none, "addRule(0, 1, 0) without phases", INDEX, () -> none.addRule(0, 1, 0));
        GreenMachines two = Due.built("p*1;p*1");
        Due.same("addRule(1, 0, 0)", two.addRule(1, 0, 0), 1);
        Due.same("addRule(0, 1, 0)", two.addRule(0, 1, 0), 1);
        Due.outside(two, "addRule(phase, 0, 0) of two", INDEX, 0, 1, number -> two.addRule(number, 0, 0));
        Due.outside(two, "addRule(0, goal, 0) of two", INDEX, 0, 1, number -> two.addRule(0, number, 0));
        GreenMachines eight = Due.built(EIGHT);
        Due.same("addRule(7, 0, 0)", eight.addRule(7, 0, 0), 1);
        Due.same("addRule(0, 7, 0)", eight.addRule(0, 7, 0), 1);
        Due.outside(eight, "addRule(phase, 0, 0) of eight", INDEX, 0, 7, number -> eight.addRule(number, 0, 0));
        Due.outside(eight, "addRule(0, goal, 0) of eight", INDEX, 0, 7, number -> eight.addRule(0, number, 0));
    }

    private static void addRuleToItself() {
        Due.says("Promise 4: goal: another phase; IllegalArgumentException if both phases are the same");
        GreenMachines machine = Due.built(EIGHT);
        for (int phase = 0; phase < 8; phase++) {
            int both = phase;
            Due.thrown(machine, "addRule() from " + both + " to it", ARGUMENT, () -> machine.addRule(both, both, 0));
        }
    }

    private static void addRuleAskers() {
        Due.says("Promise 4: askers: 0 to 63");
        GreenMachines machine = Due.built("p*1;p*1");
        Due.same("addRule(0, 1, 0)", machine.addRule(0, 1, 0), 1);
        Due.same("addRule(0, 1, 63)", machine.addRule(0, 1, 63), 2);
        Due.same("askers of the first", machine.rule(0, 0, 1), 0);
        Due.same("askers of the second", machine.rule(0, 1, 1), 63);
        Due.outside(machine, "addRule(0, 1, askers)", ARGUMENT, 0, 63, number -> machine.addRule(0, 1, number));
    }

    private static void addRuleWhenFull() {
        Due.says("Promise 4: Returns how many rules it has then; IllegalStateException if it has 4 rules");
        GreenMachines machine = Due.built(EIGHT);
        for (int rule = 1; rule <= 4; rule++) {
            Due.same("addRule(3, 4, " + rule + ")", machine.addRule(3, 4, rule), rule);
        }
        Due.thrown(machine, "addRule(3, 4, 0) as fifth", STATE, () -> machine.addRule(3, 4, 0));
        Due.same("addRule(4, 3, 0), of its neighbour", machine.addRule(4, 3, 0), 1);
        Due.same("addRule(2, 3, 0), of its neighbour", machine.addRule(2, 3, 0), 1);
        machine.dropRule(3);
        Due.same("addRule(3, 5, 0) as fourth again", machine.addRule(3, 5, 0), 4);
        Due.same("its goal", machine.rule(3, 3, 0), 5);
        Due.same("the rule behind it, of 4", machine.rule(4, 0, 0), 3);
    }

    private static void dropRuleOfNone() {
        Due.says("Promise 5: IndexOutOfBoundsException if there is no such phase");
        GreenMachines none = new GreenMachines();
        Due.thrown(none, "dropRule(0) without phases", INDEX, () -> none.dropRule(0));
        GreenMachines machine = Due.built("p*1;p*1;r1>0");
        Due.outside(machine, "dropRule()", INDEX, 0, 1, machine::dropRule);
        Due.says("Promise 5: IllegalStateException if it has no rule");
        Due.thrown(machine, "dropRule(0)", STATE, () -> machine.dropRule(0));
        Due.same("dropRule(1)", machine.dropRule(1), 0);
        Due.thrown(machine, "dropRule(1) again", STATE, () -> machine.dropRule(1));
    }

    private static void dropRuleTakesTheLast() {
        Due.says("Promise 5: Takes the last rule of a phase away. Returns its goal");
        GreenMachines machine = Due.built("p*1;p*1;p*1;p*1;p*1;r4>0?0;r4>1?1;r4>2?2;r4>3?3;r3>4");
        for (int left = 3; left >= 0; left--) {
            Due.same("dropRule(4)", machine.dropRule(4), left);
            Due.same("rules left", machine.phase(4, 2), left);
            int rule = left;
            Due.thrown(machine, "rule(4, " + left + ", 0)", INDEX, () -> machine.rule(4, rule, 0));
            for (int kept = 0; kept < left; kept++) {
                Due.same("goal of rule " + kept, machine.rule(4, kept, 0), kept);
                Due.same("askers of rule " + kept, machine.rule(4, kept, 1), 1 << kept);
            }
        }
        Due.same("rules of 3", machine.phase(3, 2), 1);
    }

    private static void changeRange() {
        Due.says("Promise 6: IndexOutOfBoundsException if there is no such phase");
        GreenMachines none = new GreenMachines();
        Due.thrown(none, "change(0, 1, 1) without phases", INDEX, () -> none.change(0, 1, 1));
        GreenMachines machine = Due.built("p1*5;p2*5");
        Due.outside(machine, "change(phase, 1, 1)", INDEX, 0, 1, number -> machine.change(number, 1, 1));
        Due.says("Promise 6: greens: 0 to 63; hold: 1 to 9. Returns its greens before");
        Due.same("change(1, 0, 1)", machine.change(1, 0, 1), 4);
        Due.same("its hold", machine.phase(1, 1), 1);
        Due.same("change(1, 63, 9)", machine.change(1, 63, 9), 0);
        Due.same("its hold then", machine.phase(1, 1), 9);
        Due.same("change(1, 4, 5)", machine.change(1, 4, 5), 63);
        Due.same("greens of the other one", machine.phase(0, 0), 2);
        Due.outside(machine, "change(0, greens, 1)", ARGUMENT, 0, 63, number -> machine.change(0, number, 1));
        Due.outside(machine, "change(0, 1, hold)", ARGUMENT, 1, 9, number -> machine.change(0, 1, number));
    }

    private static void changeOfPresent() {
        Due.says("Promise 6: Changes greens and hold of a phase: not the ticks in it, nor its rules or counts");
        GreenMachines machine = Due.built("p0*1;p1*9;r0>1;r1>0?5");
        machine.run(8);
        Due.same("change(1, 63, 1)", machine.change(1, 63, 1), 2);
        Due.same("green at once", machine.count(4), 63);
        Due.same("in it for", machine.count(2), 5);
        Due.same("came", machine.phase(1, 5), 1);
        Due.same("rules", machine.phase(1, 2), 1);
        Due.same("askers", machine.rule(1, 0, 1), 32);
    }

    private static void setRange() {
        Due.says("Promise 7: IllegalArgumentException if ticks is out of range. Returns the previous ones");
        GreenMachines machine = new GreenMachines();
        int previous = 2;
        for (int ticks = 0; ticks <= 5; ticks++) {
            Due.same("set(" + ticks + ")", machine.set(ticks), previous);
            previous = ticks;
        }
        Due.same("set(5) again", machine.set(5), 5);
        Due.same("set(0)", machine.set(0), 5);
        Due.outside(machine, "set()", ARGUMENT, 0, 5, machine::set);
        Due.same("set(1)", machine.set(1), 0);
    }

    private static void setWhileClearing() {
        Due.says("Promise 7: (a clearing that goes on is left as it is)");
        for (int ticks = 0; ticks <= 5; ticks++) {
            GreenMachines machine = Due.built("p0*1;p1*1;r0>1;r1>0");
            machine.set(3);
            machine.run(1);
            Due.same("set(" + ticks + ")", machine.set(ticks), 3);
            Due.same("left", machine.count(3), 3);
            machine.run(2);
            Due.same("left after 2", machine.count(3), 1);
            machine.run(1);
            Due.same("in 1 for", machine.count(2), 0);
            machine.run(1);
            Due.same("left of the next one", machine.count(3), ticks);
            Due.same("towards", machine.count(1), 0);
        }
    }

    private static void comeRange() {
        Due.says("Promise 8: IllegalArgumentException if direction is out of range");
        GreenMachines machine = new GreenMachines();
        Due.outside(machine, "come()", ARGUMENT, 0, 5, machine::come);
        Due.same("come(0)", machine.come(0), 0);
        Due.same("come(5)", machine.come(5), 0);
        Due.same("waiting", machine.count(5), 0b100001);
    }

    private static void comeWhenSomebodyWaits() {
        Due.says("Promise 8: (if nobody does). Returns for how many ticks somebody has been waiting there");
        GreenMachines machine = Due.built("p0*9");
        Due.same("come(1)", machine.come(1), 0);
        Due.same("come(1) in the same tick", machine.come(1), 0);
        machine.run(1);
        Due.same("come(1) after 1 tick", machine.come(1), 1);
        machine.run(99);
        Due.same("come(1) after 100 ticks", machine.come(1), 100);
        Due.same("come(2), where nobody does", machine.come(2), 0);
        Due.same("waiting", machine.count(5), 0b000110);
    }

    private static void comeWhenGreen() {
        Due.says("Promise 8: Lets somebody wait in a direction: also in a green one, until a tick goes by");
        GreenMachines machine = Due.built("p0*9");
        Due.same("come(0)", machine.come(0), 0);
        Due.same("waiting", machine.count(5), 1);
        Due.same("run(1)", machine.run(1), 0);
        Due.same("got green", machine.direction(0, 3), 1);
        Due.same("come(0) again", machine.come(0), 0);
    }

    private static void runRange() {
        Due.says("Promise 9: ticks: 1 to 99");
        GreenMachines machine = new GreenMachines();
        Due.same("run(1)", machine.run(1), 0);
        Due.same("ticks", machine.count(9), 1);
        Due.same("run(99)", machine.run(99), 0);
        Due.same("ticks then", machine.count(9), 100);
        Due.outside(machine, "run()", ARGUMENT, 1, 99, machine::run);
    }

    private static void runCountsWho() {
        Due.says("Promise 9: Returns in how many directions somebody waits then");
        GreenMachines machine = new GreenMachines();
        for (int direction = 0; direction < 6; direction++) {
            Due.same("run(1), " + direction + " wait", machine.run(1), direction);
            machine.come(direction);
        }
        Due.same("run(1), all wait", machine.run(1), 6);
        machine.addPhase(31, 1);
        Due.same("run(1), all but one are green", machine.run(1), 1);
        machine.change(0, 32, 1);
        Due.same("run(1), the last one is green", machine.run(1), 0);
    }

    private static void startRange() {
        Due.says("Promise 10: IndexOutOfBoundsException if there is no such phase");
        GreenMachines none = new GreenMachines();
        Due.thrown(none, "start(0) without phases", INDEX, () -> none.start(0));
        GreenMachines machine = Due.built("p*1;p*1;p*1;p*1;p*1;p*1;p*1;p35*1");
        Due.outside(machine, "start()", INDEX, 0, 7, machine::start);
        Due.says("Promise 10: Returns its greens");
        Due.same("start(7)", machine.start(7), 0b101000);
        Due.same("the phase", machine.count(1), 7);
        Due.same("start(0)", machine.start(0), 0);
        Due.same("the phase then", machine.count(1), 0);
    }

    private static void startWhileClearing() {
        Due.says("Promise 10: for 0 ticks; nobody waits then, and it does not clear");
        GreenMachines machine = Due.built("p0*1;p01*3;p02*1;r0>1;r1>2");
        for (int direction = 0; direction < 6; direction++) {
            machine.come(direction);
        }
        machine.run(2);
        Due.same("left ahead of it", machine.count(3), 1);
        machine.start(1);
        Due.same("left", machine.count(3), 0);
        Due.same("in it for", machine.count(2), 0);
        Due.same("waiting", machine.count(5), 0);
        Due.same("green", machine.count(4), 3);
        Due.same("came, not by a rule", machine.phase(1, 5), 0);
        for (int direction = 0; direction < 6; direction++) {
            Due.same("direction(" + direction + ", 1)", machine.direction(direction, 1), NONE);
            Due.same("direction(" + direction + ", 3)", machine.direction(direction, 3), direction == 0 ? 1 : 0);
            Due.same("direction(" + direction + ", 4)", machine.direction(direction, 4), 0);
        }
        machine.run(2);
        Due.same("in it for, ahead of its hold", machine.count(2), 2);
        machine.run(1);
        Due.same("green while clearing from it", machine.count(4), 1);
    }

    private static void startAgain() {
        Due.says("Promise 10: Puts the machine into a phase, for 0 ticks: also the one in which it is");
        GreenMachines machine = Due.built("p0*9;p1*1;r0>1");
        machine.run(8);
        Due.same("start(0)", machine.start(0), 1);
        Due.same("in it for", machine.count(2), 0);
        Due.same("ticks so far stay", machine.count(9), 8);
        machine.run(8);
        Due.same("in it for, then", machine.count(2), 8);
    }
}
