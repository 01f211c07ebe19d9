/** 'What it is', and of the 'Terms' the directions, phases, rules, and 'Running': a test for each edge. */
final class EdgesOfTermsTest {
    private static final int NONE = GreenMachines.NONE;

    public static void main(String[] args) {
        lastPromisedCall();
        mostThatIsCounted();
        sixDirections();
        noneClashAtFirst();
        clashIsOfBoth();
        phasesInOrder();
        greensPerhapsNone();
        rulesInOrder();
        ruleWithoutAskers();
        ruleWithAskers();
        atFirst();
        firstPhaseComesLater();
        greensWhileClearing();
        greensAsTheyAreNow();
        waitsInATick();
        nobodyDoesNotWaitLonger();
        waitsGoBeforeMoves();
        endOfClearing();
        asManyTicksAsTheHold();
        moreTicksThanTheHold();
        firstRuleThatHolds();
        ticksOfClearing();
        sameGreens();
        noRuleHolds();
        oneRuleATick();
        withoutPhases();
        withoutPhasesAgain();
        Due.end();
    }

    private static void lastPromisedCall() {
        Due.says("An object is used for at most 512 calls");
        GreenMachines machine = new GreenMachines();
        machine.come(5);
        for (int call = 2; call <= 510; call++) {
            machine.run(99);
        }
        Due.same("call 511, the longest that somebody can wait", machine.direction(5, 1), 509 * 99);
        Due.same("call 512, all ticks", machine.count(9), 509 * 99);
    }

    private static void mostThatIsCounted() {
        Due.says("An object is used for at most 512 calls: what is counted");
        GreenMachines served = new GreenMachines();
        served.addPhase(1, 1);
        for (int time = 0; time < 255; time++) {
            served.come(0);
            served.run(1);
        }
        Due.same("call 512, how often somebody got green", served.direction(0, 3), 255);
        GreenMachines moved = new GreenMachines();
        moved.addPhase(1, 1);
        moved.addPhase(2, 1);
        moved.addRule(0, 1, 0);
        moved.addRule(1, 0, 0);
        moved.set(0);
        for (int time = 0; time < 506; time++) {
            moved.run(99);
        }
        Due.same("call 512, how often it came", moved.phase(1, 5), 506 * 99 / 2);
    }

    private static void sixDirections() {
        Due.says("There are 6 directions, numbered from 0");
        GreenMachines machine = new GreenMachines();
        for (int direction = 0; direction < 6; direction++) {
            Due.same("come(" + direction + ")", machine.come(direction), 0);
            Due.same("somebody waits in", machine.count(5), (2 << direction) - 1);
        }
    }

    private static void noneClashAtFirst() {
        Due.says("Two directions clash or not; at first none do");
        GreenMachines machine = new GreenMachines();
        for (int direction = 0; direction < 6; direction++) {
            Due.same(direction + " clashes with", machine.direction(direction, 2), 0);
        }
        machine.addPhase(63, 1);
        Due.same("phases in which greens clash", machine.count(6), 0);
    }

    private static void clashIsOfBoth() {
        Due.says("Two directions clash or not; none clashes with itself");
        GreenMachines machine = new GreenMachines();
        for (int one = 0; one < 6; one++) {
            for (int other = one + 1; other < 6; other++) {
                machine.clash(one, other);
            }
        }
        for (int direction = 0; direction < 6; direction++) {
            Due.same(direction + " clashes with", machine.direction(direction, 2), 63 - (1 << direction));
        }
        for (int direction = 0; direction < 6; direction++) {
            machine.addPhase(1 << direction, 1);
        }
        Due.same("phases in which greens clash, of one green each", machine.count(6), 0);
    }

    private static void phasesInOrder() {
        Due.says("There are at most 8 phases, numbered from 0 in the order in which they came");
        GreenMachines machine = new GreenMachines();
        for (int phase = 0; phase < 8; phase++) {
            Due.same("addPhase()", machine.addPhase(63 - phase, 9 - phase), phase);
        }
        for (int phase = 0; phase < 8; phase++) {
            Due.same("greens of " + phase, machine.phase(phase, 0), 63 - phase);
            Due.same("hold of " + phase, machine.phase(phase, 1), 9 - phase);
        }
        Due.thrown(machine, "addPhase() as ninth", IllegalStateException.class, () -> machine.addPhase(0, 1));
    }

    private static void greensPerhapsNone() {
        Due.says("A phase has greens (some of the directions, perhaps none)");
        GreenMachines machine = Due.built("p*1;p012345*1");
        Due.same("greens of 0", machine.phase(0, 0), 0);
        Due.same("green in 0", machine.count(4), 0);
        Due.same("start(0)", machine.start(0), 0);
        Due.same("start(1)", machine.start(1), 63);
        Due.same("green in 1", machine.count(4), 63);
    }

    private static void rulesInOrder() {
        Due.says("A phase has at most 4 rules, in the order in which they came");
        GreenMachines machine = Due.built("p*1;p*1;p*1;p*1;p*1;p*1;p*1;p*1");
        for (int rule = 0; rule < 4; rule++) {
            Due.same("addRule() to 7", machine.addRule(7, 6 - rule, 60 + rule), rule + 1);
            Due.same("addRule() to 0", machine.addRule(0, 1 + rule, rule), rule + 1);
        }
        for (int rule = 0; rule < 4; rule++) {
            Due.same("goal of 7, " + rule, machine.rule(7, rule, 0), 6 - rule);
            Due.same("askers of 7, " + rule, machine.rule(7, rule, 1), 60 + rule);
            Due.same("goal of 0, " + rule, machine.rule(0, rule, 0), 1 + rule);
            Due.same("askers of 0, " + rule, machine.rule(0, rule, 1), rule);
        }
        Due.same("rules of 1, between them", machine.phase(1, 2), 0);
        Due.thrown(machine, "addRule() as fifth", IllegalStateException.class, () -> machine.addRule(7, 0, 0));
    }

    private static void ruleWithoutAskers() {
        Due.says("without askers it holds always");
        GreenMachines machine = Due.built("p*9;p*9;r0>1;r1>0");
        Due.same("when nobody waits", machine.rule(0, 0, 2), 1);
        Due.same("in another phase", machine.rule(1, 0, 2), 1);
        machine.come(5);
        Due.same("when somebody waits", machine.rule(0, 0, 2), 1);
    }

    private static void ruleWithAskers() {
        Due.says("otherwise it holds when somebody waits in at least one of these");
        GreenMachines nobody = Due.built("p*9;p*9;r0>1?05;r0>1?012345");
        Due.same("asked by 0 and 5, nobody waits", nobody.rule(0, 0, 2), 0);
        Due.same("asked by all, nobody waits", nobody.rule(0, 1, 2), 0);
        for (int direction = 0; direction < 6; direction++) {
            GreenMachines machine = Due.built("p*9;p*9;r0>1?05;r0>1?012345");
            machine.come(direction);
            Due.same("asked by 0 and 5, " + direction + " waits", machine.rule(0, 0, 2), direction % 5 == 0 ? 1 : 0);
            Due.same("asked by all, " + direction + " waits", machine.rule(0, 1, 2), 1);
        }
        nobody.come(0);
        nobody.come(5);
        Due.same("asked by 0 and 5, both wait", nobody.rule(0, 0, 2), 1);
    }

    private static void atFirst() {
        Due.says("The machine is in a phase, at first 0 (if there is one), for some ticks, at first 0");
        GreenMachines machine = new GreenMachines();
        Due.same("the phase, if there is none", machine.count(1), NONE);
        Due.same("the ticks in it", machine.count(2), NONE);
        machine.addPhase(1, 1);
        machine.addPhase(2, 1);
        Due.same("the phase", machine.count(1), 0);
        Due.same("the ticks in the phase", machine.count(2), 0);
        Due.same("somebody waits, at first nobody", machine.count(5), 0);
        Due.same("it does not clear", machine.count(3), 0);
    }

    private static void firstPhaseComesLater() {
        Due.says("at first 0 (if there is one), for some ticks, at first 0: ticks without phases are not in it");
        GreenMachines machine = new GreenMachines();
        machine.run(99);
        machine.addPhase(1, 9);
        machine.addPhase(2, 9);
        machine.addRule(0, 1, 0);
        Due.same("the ticks in the phase", machine.count(2), 0);
        machine.run(8);
        Due.same("the ticks in the phase, one ahead of the hold", machine.count(2), 8);
        machine.run(1);
        Due.same("the phase to which it clears", machine.count(1), 1);
        Due.same("the ticks of clearing that are left", machine.count(3), 2);
    }

    private static void greensWhileClearing() {
        Due.says("while clearing, just those directions that are greens of both phases");
        GreenMachines machine = Due.built("p012*1;p235*9;r0>1");
        Due.same("green ahead of it", machine.count(4), 0b000111);
        machine.run(1);
        Due.same("green in the first tick of it", machine.count(4), 0b000100);
        machine.run(1);
        Due.same("green in the last tick of it", machine.count(4), 0b000100);
        for (int direction = 0; direction < 6; direction++) {
            Due.same("direction(" + direction + ", 0)", machine.direction(direction, 0), direction == 2 ? 1 : 0);
        }
        machine.run(1);
        Due.same("green behind it", machine.count(4), 0b101100);
        GreenMachines none = Due.built("p01*1;p23*9;r0>1");
        none.run(1);
        Due.same("green without a green of both", none.count(4), 0);
    }

    private static void greensAsTheyAreNow() {
        Due.says("while clearing, the greens of both phases, as they are now");
        GreenMachines machine = Due.built("p01*1;p12*9;r0>1");
        machine.run(1);
        machine.change(0, 0b111000, 1);
        Due.same("green with other greens of the phase that it leaves", machine.count(4), 0);
        machine.change(1, 0b011110, 9);
        Due.same("green with other greens of its goal", machine.count(4), 0b011000);
        machine.change(0, 0b011110, 9);
        Due.same("green with the same greens", machine.count(4), 0b011110);
        Due.same("it clears on", machine.count(3), 2);
        machine.come(4);
        machine.run(1);
        Due.same("4 got green while clearing", machine.direction(4, 3), 1);
        Due.same("it clears on then", machine.count(3), 1);
    }

    private static void waitsInATick() {
        Due.says("In each direction in which somebody waits, and which is green, nobody waits any more; "
                + "in all others in which somebody waits, the wait is 1 tick longer");
        GreenMachines machine = Due.built("p024*9");
        for (int direction = 0; direction < 6; direction++) {
            machine.come(direction);
        }
        Due.same("run(1)", machine.run(1), 3);
        for (int direction = 0; direction < 6; direction++) {
            boolean green = direction % 2 == 0;
            Due.same("direction(" + direction + ", 1)", machine.direction(direction, 1), green ? NONE : 1);
            Due.same("direction(" + direction + ", 3)", machine.direction(direction, 3), green ? 1 : 0);
            Due.same("direction(" + direction + ", 4)", machine.direction(direction, 4), 0);
        }
    }

    private static void nobodyDoesNotWaitLonger() {
        Due.says("in all others in which somebody waits, the wait is 1 tick longer: where nobody waits, nobody does");
        GreenMachines machine = Due.built("p0*9");
        Due.same("run(99)", machine.run(99), 0);
        for (int direction = 0; direction < 6; direction++) {
            Due.same("direction(" + direction + ", 1)", machine.direction(direction, 1), NONE);
            Due.same("direction(" + direction + ", 3)", machine.direction(direction, 3), 0);
        }
    }

    private static void waitsGoBeforeMoves() {
        Due.says("1. the waits, 2. the machine: who got green in a tick does not ask in it");
        GreenMachines asks = Due.built("p0*1;p1*1;r0>1?0");
        asks.come(0);
        asks.run(1);
        Due.same("it stays in 0", asks.count(2), 1);
        Due.says("1. the waits, 2. the machine: a phase that comes in a tick gives green in the next one");
        GreenMachines comes = Due.built("p0*1;p1*9;r0>1?1");
        comes.set(0);
        comes.come(1);
        Due.same("run(1)", comes.run(1), 1);
        Due.same("it is in 1", comes.count(1), 1);
        Due.same("somebody has been waiting for", comes.direction(1, 1), 1);
        Due.same("run(1) again", comes.run(1), 0);
        Due.same("the wait was", comes.direction(1, 4), 1);
        Due.says("1. the waits, 2. the machine: the greens of a phase that is left in a tick are green in it");
        GreenMachines leaves = Due.built("p0*1;p1*9;r0>1");
        leaves.come(0);
        Due.same("run(1) that leaves 0", leaves.run(1), 0);
    }

    private static void endOfClearing() {
        Due.says("While clearing, one tick less is left; without any left the machine is in the phase "
                + "to which it clears, for 0 ticks, and that is all");
        GreenMachines machine = Due.built("p0*1;p1*1;r0>1;r1>0");
        machine.run(1);
        Due.same("left", machine.count(3), 2);
        machine.run(1);
        Due.same("left after a tick", machine.count(3), 1);
        Due.same("in no phase", machine.count(2), NONE);
        Due.same("not yet counted", machine.phase(1, 5), 0);
        machine.run(1);
        Due.same("left after two ticks", machine.count(3), 0);
        Due.same("in the phase to which it cleared", machine.count(1), 1);
        Due.same("for", machine.count(2), 0);
        Due.same("counted", machine.phase(1, 5), 1);
        machine.run(1);
        Due.same("its hold of 1 is over with the next tick", machine.count(1), 0);
    }

    private static void asManyTicksAsTheHold() {
        Due.says("if that is as many ticks as the hold, the first rule of the phase that holds is followed");
        for (int hold = 1; hold <= 9; hold++) {
            GreenMachines machine = new GreenMachines();
            machine.addPhase(1, hold);
            machine.addPhase(2, 1);
            machine.addRule(0, 1, 0);
            for (int tick = 1; tick < hold; tick++) {
                machine.run(1);
                Due.same("hold " + hold + ", in it for", machine.count(2), tick);
            }
            machine.run(1);
            Due.same("hold " + hold + ", then in it for", machine.count(2), NONE);
            Due.same("hold " + hold + ", then to", machine.count(1), 1);
        }
    }

    private static void moreTicksThanTheHold() {
        Due.says("if that is as many ticks as the hold, or more, the first rule that holds is followed");
        GreenMachines machine = Due.built("p0*3;p1*1;r0>1?5");
        machine.run(20);
        Due.same("in it for", machine.count(2), 20);
        machine.come(5);
        machine.run(1);
        Due.same("to", machine.count(1), 1);
        GreenMachines shorter = Due.built("p0*9;p1*1;r0>1");
        shorter.run(8);
        shorter.change(0, 1, 1);
        Due.same("with a shorter hold, until the next tick, for", shorter.count(2), 8);
        shorter.run(1);
        Due.same("with a shorter hold, to", shorter.count(1), 1);
    }

    private static void firstRuleThatHolds() {
        Due.says("the first rule of the phase that holds is followed");
        int[] goals = {0, 1, 2, 1, 3, 1, 2, 1, 4, 1, 2, 1, 3, 1, 2, 1};
        for (int waiting = 0; waiting < 16; waiting++) {
            GreenMachines machine = Due.built("p*1;p0*9;p1*9;p2*9;p3*9;r0>1?0;r0>2?1;r0>3?2;r0>4?3");
            for (int direction = 0; direction < 4; direction++) {
                if ((waiting >> direction & 1) == 1) {
                    machine.come(direction);
                }
            }
            machine.come(5);
            machine.run(1);
            Due.same("to, when these wait: " + waiting, machine.count(1), goals[waiting]);
        }
        GreenMachines ahead = Due.built("p*1;p0*9;p1*9;r0>1;r0>2?1;r0>2");
        ahead.come(1);
        ahead.run(1);
        Due.same("to, with one without askers ahead", ahead.count(1), 1);
    }

    private static void ticksOfClearing() {
        Due.says("clears towards its goal for the ticks of clearing (0 to 5), or is in it at once if that is 0");
        for (int ticks = 0; ticks <= 5; ticks++) {
            GreenMachines machine = Due.built("p0*1;p1*9;r0>1");
            machine.set(ticks);
            machine.run(1);
            for (int left = ticks; left > 0; left--) {
                Due.same("of " + ticks + " are left", machine.count(3), left);
                Due.same("while clearing in it for", machine.count(2), NONE);
                machine.run(1);
            }
            Due.same("behind " + ticks + " are left", machine.count(3), 0);
            Due.same("behind " + ticks + " in", machine.count(1), 1);
            Due.same("behind " + ticks + " for", machine.count(2), 0);
            Due.same("behind " + ticks + " came", machine.phase(1, 5), 1);
        }
        Due.says("the ticks of clearing, at first 2");
        GreenMachines machine = Due.built("p0*1;p1*9;r0>1");
        machine.run(1);
        Due.same("left", machine.count(3), 2);
    }

    private static void sameGreens() {
        Due.says("or is in it at once, for 0 ticks, if both phases have the same greens");
        String[] texts = {"p*1;p*9;r0>1", "p012345*1;p012345*9;r0>1", "p3*1;p3*9;r0>1"};
        for (String text : texts) {
            GreenMachines machine = Due.built(text);
            machine.set(5);
            machine.run(1);
            Due.same(text + ": in", machine.count(1), 1);
            Due.same(text + ": for", machine.count(2), 0);
            Due.same(text + ": left", machine.count(3), 0);
            Due.same(text + ": came", machine.phase(1, 5), 1);
        }
        GreenMachines machine = Due.built("p01234*1;p012345*9;r0>1");
        machine.set(5);
        machine.run(1);
        Due.same("with one green more, left", machine.count(3), 5);
    }

    private static void noRuleHolds() {
        Due.says("If no rule holds, it stays");
        GreenMachines without = Due.built("p0*1;p1*1;r1>0");
        without.run(99);
        Due.same("without rules, for", without.count(2), 99);
        GreenMachines asked = Due.built("p0*1;p1*1;r0>1?0123;r0>1?5");
        asked.come(4);
        asked.run(99);
        Due.same("with rules that do not hold, for", asked.count(2), 99);
        asked.come(3);
        asked.run(1);
        Due.same("with one that holds, to", asked.count(1), 1);
    }

    private static void oneRuleATick() {
        Due.says("is in it at once, for 0 ticks: the next rule needs a tick more");
        GreenMachines machine = Due.built("p0*1;p1*1;p2*1;r0>1;r1>2;r2>0");
        machine.set(0);
        int[] phases = {1, 2, 0, 1, 2, 0};
        for (int phase : phases) {
            machine.run(1);
            Due.same("in", machine.count(1), phase);
            Due.same("for", machine.count(2), 0);
        }
    }

    private static void withoutPhases() {
        Due.says("Without phases nothing is green, and step 2 does nothing");
        GreenMachines machine = new GreenMachines();
        machine.come(0);
        machine.come(5);
        Due.same("run(99)", machine.run(99), 2);
        Due.same("green", machine.count(4), 0);
        Due.same("direction(0, 0)", machine.direction(0, 0), 0);
        Due.same("direction(0, 1)", machine.direction(0, 1), 99);
        Due.same("direction(5, 1)", machine.direction(5, 1), 99);
        Due.same("direction(0, 3)", machine.direction(0, 3), 0);
        Due.same("the phase", machine.count(1), NONE);
        Due.same("the ticks in it", machine.count(2), NONE);
        Due.same("left", machine.count(3), 0);
        Due.same("ticks", machine.count(9), 99);
    }

    private static void withoutPhasesAgain() {
        Due.says("Without phases nothing is green, also when the only one is undone");
        GreenMachines machine = new GreenMachines();
        machine.addPhase(63, 1);
        Due.same("green with it", machine.count(4), 63);
        machine.undo();
        Due.same("green", machine.count(4), 0);
        machine.come(3);
        Due.same("run(1)", machine.run(1), 1);
        Due.same("direction(3, 1)", machine.direction(3, 1), 1);
        machine.addPhase(0, 1);
        Due.same("green with another one", machine.count(4), 0);
        Due.same("in it for", machine.count(2), 0);
    }
}
