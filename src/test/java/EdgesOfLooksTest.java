/** Promises 16 to 19: a test for each edge that they name. */
final class EdgesOfLooksTest {
    private static final Class<IllegalArgumentException> ARGUMENT = IllegalArgumentException.class;
    private static final Class<IndexOutOfBoundsException> INDEX = IndexOutOfBoundsException.class;
    private static final int NONE = GreenMachines.NONE;
    private static final String EIGHT = "p*1;p*1;p*1;p*1;p*1;p*1;p*1;p*1";

    public static void main(String[] args) {
        phaseArguments();
        phaseClashes();
        phaseCanCome();
        phaseCanComeWhileClearing();
        phaseCame();
        ruleArguments();
        ruleHoldsNow();
        directionArguments();
        directionGreen();
        directionWaits();
        directionGotGreen();
        directionLongestWait();
        directionPhases();
        countArguments();
        countPresent();
        countTicksInIt();
        countLeft();
        countWaiting();
        countClashes();
        countComing();
        countTicks();
        countStarving();
        looksChangeNothing();
        Due.end();
    }

    private static void phaseArguments() {
        Due.says("Promise 16: IndexOutOfBoundsException if there is no such phase");
        GreenMachines none = new GreenMachines();
        Due.thrown(none, "phase(0, 0) without phases", INDEX, () -> none.phase(0, 0));
        GreenMachines two = Due.built("p*1;p*1");
        Due.outside(two, "phase() of two", INDEX, 0, 1, number -> two.phase(number, 0));
        GreenMachines eight = Due.built(EIGHT);
        Due.outside(eight, "phase() of eight", INDEX, 0, 7, number -> eight.phase(number, 5));
        Due.says("Promise 16: IllegalArgumentException if what is not 0 to 5");
        Due.outside(eight, "phase(7, what)", ARGUMENT, 0, 5, number -> eight.phase(7, number));
        int[] properties = {0, 1, 0, 0, 0, 0};
        for (int what = 0; what <= 5; what++) {
            Due.same("phase(7, " + what + ")", eight.phase(7, what), properties[what]);
        }
    }

    private static void phaseClashes() {
        Due.says("Promise 16: 3: 1 if two of its greens clash, otherwise 0");
        GreenMachines machine = Due.built("p*1;p0*1;p5*1;p05*1;p01234*1;p012345*1");
        checkProperty(machine, 3, "without a clash", new int[] {0, 0, 0, 0, 0, 0});
        machine.clash(0, 5);
        checkProperty(machine, 3, "with the clash of 0 and 5", new int[] {0, 0, 0, 1, 0, 1});
        machine.clash(3, 4);
        checkProperty(machine, 3, "with that of 3 and 4 too", new int[] {0, 0, 0, 1, 1, 1});
        machine.clash(5, 0);
        checkProperty(machine, 3, "with that of 3 and 4 alone", new int[] {0, 0, 0, 0, 1, 1});
        machine.change(0, 0b011000, 1);
        checkProperty(machine, 3, "with these as new greens", new int[] {1, 0, 0, 0, 1, 1});
    }

    private static void checkProperty(GreenMachines machine, int what, String name, int[] due) {
        for (int phase = 0; phase < due.length; phase++) {
            Due.same("phase(" + phase + ", " + what + ") " + name, machine.phase(phase, what), due[phase]);
        }
    }

    private static void phaseCanCome() {
        Due.says("Phases that can come are those to which one gets from the present phase (it too) by any rules");
        checkProperty(Due.built("p*1;p*1"), 4, "without rules", new int[] {1, 0});
        checkProperty(Due.built("p*1;p*1;p*1;r1>0;r2>1"), 4, "with ways to it alone", new int[] {1, 0, 0});
        checkProperty(Due.built("p*1;p*1;p*1;r0>1;r0>2"), 4, "by a rule behind one without askers",
                new int[] {1, 1, 1});
        checkProperty(Due.built("p0*1;p*1;r0>1?0"), 4, "by a rule that is asked for by its green",
                new int[] {1, 1});
        GreenMachines eight = Due.built(EIGHT);
        for (int phase = 7; phase > 0; phase--) {
            eight.addRule(phase, phase - 1, 63);
        }
        checkProperty(eight, 4, "at the end of a chain", new int[] {1, 0, 0, 0, 0, 0, 0, 0});
        eight.start(7);
        checkProperty(eight, 4, "at the start of a chain", new int[] {1, 1, 1, 1, 1, 1, 1, 1});
        eight.start(3);
        checkProperty(eight, 4, "amid a chain", new int[] {1, 1, 1, 1, 0, 0, 0, 0});
    }

    private static void phaseCanComeWhileClearing() {
        Due.says("from the present phase (the one to which the machine clears, if it does; it too)");
        GreenMachines machine = Due.built("p0*1;p1*1;p2*1;r0>1;r1>2");
        checkProperty(machine, 4, "ahead of it", new int[] {1, 1, 1});
        machine.run(1);
        checkProperty(machine, 4, "while clearing from 0 to 1", new int[] {0, 1, 1});
        machine.run(2);
        checkProperty(machine, 4, "in 1", new int[] {0, 1, 1});
        machine.run(1);
        checkProperty(machine, 4, "while clearing from 1 to 2", new int[] {0, 0, 1});
    }

    private static void phaseCame() {
        Due.says("Promise 16: 5: how often the machine came into it so far (by rules; counted when it is in it)");
        GreenMachines machine = Due.built("p0*1;p1*1;r0>1;r1>0");
        checkProperty(machine, 5, "at first, though it is in 0", new int[] {0, 0});
        machine.start(1);
        machine.start(0);
        checkProperty(machine, 5, "behind start()", new int[] {0, 0});
        machine.run(2);
        checkProperty(machine, 5, "while clearing", new int[] {0, 0});
        machine.run(1);
        checkProperty(machine, 5, "when it is in it", new int[] {0, 1});
        machine.run(3);
        checkProperty(machine, 5, "back", new int[] {1, 1});
        machine.run(1);
        machine.start(1);
        checkProperty(machine, 5, "when start() ends the clearing", new int[] {1, 1});
        machine.set(0);
        machine.run(2);
        checkProperty(machine, 5, "at once", new int[] {2, 2});
    }

    private static void ruleArguments() {
        Due.says("Promise 17: IndexOutOfBoundsException if there is no such phase or rule");
        GreenMachines none = new GreenMachines();
        Due.thrown(none, "rule(0, 0, 0) without phases", INDEX, () -> none.rule(0, 0, 0));
        GreenMachines machine = Due.built("p*1;p*1;r0>1?0;r0>1?1;r0>1?2;r0>1?3;r1>0?5");
        Due.outside(machine, "rule(phase, 0, 0)", INDEX, 0, 1, number -> machine.rule(number, 0, 0));
        Due.outside(machine, "rule(0, rule, 0)", INDEX, 0, 3, number -> machine.rule(0, number, 0));
        Due.outside(machine, "rule(1, rule, 0)", INDEX, 0, 0, number -> machine.rule(1, number, 0));
        Due.says("Promise 17: rule: its number in the phase, from 0");
        for (int rule = 0; rule < 4; rule++) {
            Due.same("rule(0, " + rule + ", 0)", machine.rule(0, rule, 0), 1);
            Due.same("rule(0, " + rule + ", 1)", machine.rule(0, rule, 1), 1 << rule);
        }
        machine.addPhase(1, 1);
        Due.thrown(machine, "rule(2, 0, 0) of a phase without rules", INDEX, () -> machine.rule(2, 0, 0));
        Due.says("Promise 17: IllegalArgumentException if what is not 0 to 2");
        Due.outside(machine, "rule(1, 0, what)", ARGUMENT, 0, 2, number -> machine.rule(1, 0, number));
        Due.outside(machine, "rule(0, 3, what)", ARGUMENT, 0, 2, number -> machine.rule(0, 3, number));
    }

    private static void ruleHoldsNow() {
        Due.says("Promise 17: 2: 1 if it holds now, otherwise 0");
        GreenMachines machine = Due.built("p0*9;p1*9;r0>1;r0>1?1;r0>1;r1>0?15");
        Due.same("rule(0, 0, 2), ahead of the hold's end", machine.rule(0, 0, 2), 1);
        Due.same("rule(0, 1, 2), nobody waits", machine.rule(0, 1, 2), 0);
        Due.same("rule(0, 2, 2), behind another one", machine.rule(0, 2, 2), 1);
        machine.come(5);
        Due.same("rule(0, 1, 2), somebody else waits", machine.rule(0, 1, 2), 0);
        Due.same("rule(1, 0, 2), of another phase", machine.rule(1, 0, 2), 1);
        machine.come(1);
        Due.same("rule(0, 1, 2), somebody waits", machine.rule(0, 1, 2), 1);
        machine.start(1);
        Due.same("rule(1, 0, 2), nobody waits behind start()", machine.rule(1, 0, 2), 0);
    }

    private static void directionArguments() {
        Due.says("Promise 18: IllegalArgumentException if an argument is out of range");
        GreenMachines machine = new GreenMachines();
        Due.outside(machine, "direction(direction, 0)", ARGUMENT, 0, 5, number -> machine.direction(number, 0));
        Due.outside(machine, "direction(5, what)", ARGUMENT, 0, 5, number -> machine.direction(5, number));
        Due.outside(machine, "direction(both)", ARGUMENT, 0, 5, number -> machine.direction(number, number));
        int[] due = {0, NONE, 0, 0, 0, 0};
        for (int what = 0; what <= 5; what++) {
            Due.same("direction(0, " + what + ")", machine.direction(0, what), due[what]);
            Due.same("direction(5, " + what + ")", machine.direction(5, what), due[what]);
        }
    }

    private static void directionGreen() {
        Due.says("Promise 18: 0: 1 if it is green, otherwise 0");
        GreenMachines machine = Due.built("p05*1;p5*1;r0>1");
        int[] due = {1, 0, 0, 0, 0, 1};
        for (int direction = 0; direction < 6; direction++) {
            Due.same("direction(" + direction + ", 0)", machine.direction(direction, 0), due[direction]);
        }
        machine.run(1);
        Due.same("direction(0, 0) while clearing", machine.direction(0, 0), 0);
        Due.same("direction(5, 0) while clearing", machine.direction(5, 0), 1);
    }

    private static void directionWaits() {
        Due.says("Promise 18: 1: the ticks for which somebody has been waiting, NONE if nobody waits");
        GreenMachines machine = Due.built("p0*9");
        Due.same("when nobody waits", machine.direction(1, 1), NONE);
        machine.come(1);
        Due.same("for no tick", machine.direction(1, 1), 0);
        machine.run(1);
        Due.same("for one", machine.direction(1, 1), 1);
        machine.change(0, 2, 9);
        Due.same("when it is green, ahead of the tick", machine.direction(1, 1), 1);
        machine.run(1);
        Due.same("when it was green", machine.direction(1, 1), NONE);
    }

    private static void directionGotGreen() {
        Due.says("Promise 18: 3: how often somebody who waited got green so far");
        GreenMachines machine = Due.built("p0*9");
        machine.run(9);
        Due.same("when nobody waited", machine.direction(0, 3), 0);
        machine.come(0);
        Due.same("ahead of the tick", machine.direction(0, 3), 0);
        machine.run(9);
        Due.same("behind it, once", machine.direction(0, 3), 1);
        machine.come(0);
        machine.start(0);
        machine.run(1);
        Due.same("who went at start() did not get green", machine.direction(0, 3), 1);
        Due.same("of another direction", machine.direction(1, 3), 0);
    }

    private static void directionLongestWait() {
        Due.says("Promise 18: 4: the longest of these waits so far (without the tick in which it ended), "
                + "0 without one");
        GreenMachines machine = Due.built("p*9");
        Due.same("without one", machine.direction(0, 4), 0);
        int[] waits = {0, 1, 5, 4, 0, 6};
        int[] longest = {0, 1, 5, 5, 5, 6};
        for (int time = 0; time < waits.length; time++) {
            machine.come(0);
            if (waits[time] > 0) {
                machine.run(waits[time]);
            }
            Due.same("while waiting", machine.direction(0, 4), time == 0 ? 0 : longest[time - 1]);
            machine.change(0, 1, 9);
            machine.run(1);
            Due.same("behind a wait of " + waits[time], machine.direction(0, 4), longest[time]);
            machine.change(0, 0, 9);
        }
        machine.come(0);
        machine.run(50);
        machine.start(0);
        Due.same("behind a wait that start() ends", machine.direction(0, 4), 6);
    }

    private static void directionPhases() {
        Due.says("Promise 18: 5: the phases that have it as a green, as a mask");
        GreenMachines machine = Due.built("p0*1;p0*1;p0*1;p0*1;p0*1;p0*1;p0*1;p0*1");
        Due.same("direction(0, 5)", machine.direction(0, 5), 255);
        Due.same("direction(1, 5)", machine.direction(1, 5), 0);
        machine.change(7, 0b100010, 1);
        Due.same("direction(0, 5) then", machine.direction(0, 5), 127);
        Due.same("direction(1, 5) then", machine.direction(1, 5), 128);
        Due.same("direction(5, 5) then", machine.direction(5, 5), 128);
    }

    private static void countArguments() {
        Due.says("Promise 19: IllegalArgumentException if what is not 0 to 11");
        GreenMachines machine = new GreenMachines();
        Due.outside(machine, "count()", ARGUMENT, 0, 11, machine::count);
        Due.same("count(0)", machine.count(0), 0);
        Due.same("count(11)", machine.count(11), 0);
    }

    private static void countPresent() {
        Due.says("Promise 19: 1: the phase, or the one to which it clears, NONE without phases");
        GreenMachines machine = new GreenMachines();
        Due.same("without phases", machine.count(1), NONE);
        Due.type(machine, "p0*1;p1*1;r0>1;r1>0");
        machine.build();
        Due.same("in 0", machine.count(1), 0);
        machine.run(1);
        Due.same("clearing to 1", machine.count(1), 1);
        machine.run(2);
        Due.same("in 1", machine.count(1), 1);
        machine.run(1);
        Due.same("clearing to 0", machine.count(1), 0);
        machine.undo();
        machine.undo();
        machine.undo();
        machine.undo();
        Due.same("without phases again", machine.count(1), NONE);
    }

    private static void countTicksInIt() {
        Due.says("Promise 19: 2: the ticks for which it has been in it, NONE if it clears or there is none");
        GreenMachines machine = new GreenMachines();
        Due.same("without phases", machine.count(2), NONE);
        Due.type(machine, "p0*2;p1*1;r0>1");
        machine.build();
        int[] due = {1, NONE, NONE, 0, 1, 2, 3};
        Due.same("at first", machine.count(2), 0);
        for (int tick = 0; tick < due.length; tick++) {
            machine.run(1);
            Due.same("behind tick " + tick, machine.count(2), due[tick]);
        }
    }

    private static void countLeft() {
        Due.says("Promise 19: 3: the ticks of clearing that are left, 0 if it does not clear");
        GreenMachines machine = Due.built("p0*2;p1*1;r0>1");
        int[] due = {0, 2, 1, 0, 0, 0};
        for (int tick = 0; tick < due.length; tick++) {
            machine.run(1);
            Due.same("behind tick " + tick, machine.count(3), due[tick]);
        }
        Due.same("without phases", new GreenMachines().count(3), 0);
    }

    private static void countWaiting() {
        Due.says("Promise 19: 4: the greens now, as a mask; 5: the directions in which somebody waits, as a mask");
        GreenMachines machine = Due.built("p05*9;p012345*9;p*9");
        for (int direction = 0; direction < 6; direction++) {
            machine.come(direction);
        }
        Due.same("greens of 0", machine.count(4), 0b100001);
        Due.same("all wait", machine.count(5), 63);
        machine.run(1);
        Due.same("those wait that are not green", machine.count(5), 0b011110);
        machine.start(1);
        Due.same("all are green", machine.count(4), 63);
        Due.same("nobody waits", machine.count(5), 0);
        machine.start(2);
        Due.same("none is green", machine.count(4), 0);
    }

    private static void countClashes() {
        Due.says("Promise 19: 6: phases in which greens clash; 8: phases that can come in which greens clash");
        GreenMachines machine = Due.built("p01*1;p01*1;p12*1;p01*1;p*1;p01*1;p01*1;p01*1;r0>1;r0>2;x34");
        Due.same("count(6) of none", machine.count(6), 0);
        Due.same("count(8) of none", machine.count(8), 0);
        machine.clash(0, 1);
        Due.same("count(6)", machine.count(6), 6);
        Due.same("count(8)", machine.count(8), 2);
        machine.clash(1, 2);
        Due.same("count(6) with another clash", machine.count(6), 7);
        Due.same("count(8) with another clash", machine.count(8), 3);
        machine.change(4, 63, 1);
        Due.same("count(6) of all", machine.count(6), 8);
        machine.start(4);
        Due.same("count(8) from 4", machine.count(8), 1);
        Due.same("without phases count(6)", new GreenMachines().count(6), 0);
        Due.same("without phases count(8)", new GreenMachines().count(8), 0);
    }

    private static void countComing() {
        Due.says("Promise 19: 7: phases that can come");
        Due.same("without phases", new GreenMachines().count(7), 0);
        GreenMachines machine = Due.built(EIGHT);
        Due.same("without rules", machine.count(7), 1);
        for (int phase = 0; phase < 7; phase++) {
            machine.addRule(phase, phase + 1, 32);
            Due.same("of a chain", machine.count(7), phase + 2);
        }
        machine.start(7);
        Due.same("from the end of the chain", machine.count(7), 1);
        machine.addRule(7, 0, 0);
        Due.same("of a round", machine.count(7), 8);
    }

    private static void countTicks() {
        Due.says("Promise 19: 9: ticks so far");
        GreenMachines machine = new GreenMachines();
        machine.run(1);
        Due.same("without phases", machine.count(9), 1);
        Due.type(machine, "p0*1;p1*1;r0>1");
        machine.build();
        machine.run(2);
        Due.same("with phases", machine.count(9), 3);
        machine.start(1);
        machine.come(2);
        Due.same("start() and come() need none", machine.count(9), 3);
    }

    private static void countStarving() {
        Due.says("Promise 19: 10: directions that can starve (of those that are a green of some phase or not)");
        Due.same("without phases", new GreenMachines().count(10), 0);
        Due.same("that are a green of no phase", Due.built("p*1").count(10), 63);
        Due.same("one of them a green", Due.built("p0*1;p5*1").count(10), 0b111110);
        GreenMachines machine = Due.built("p*1;p012345*1;p024*1");
        Due.same("in a phase without greens", machine.count(10), 63);
        machine.start(1);
        Due.same("in one with all greens", machine.count(10), 0);
        machine.start(2);
        Due.same("in one with some", machine.count(10), 0b101010);
        machine.addRule(2, 1, 0);
        Due.same("in one with some and a way to all", machine.count(10), 0);
        machine.addRule(1, 2, 0);
        Due.same("with the way back", machine.count(10), 0);
        machine.addRule(1, 0, 63);
        Due.same("with a rule behind it to the one without greens", machine.count(10), 63);
    }

    private static void looksChangeNothing() {
        Due.says("---- looks; nothing is changed");
        GreenMachines machine = Due.built("p0*1;p1*2;r0>1?1;r1>0;x01");
        machine.come(1);
        machine.run(2);
        machine.append('p');
        long before = machine.digest();
        for (int what = 0; what <= 5; what++) {
            machine.phase(0, what);
            machine.phase(1, what);
            machine.direction(what, what);
            machine.count(what);
            machine.count(6 + what);
            machine.rule(what % 2, 0, what % 3);
            machine.firstError();
            Due.same("digest() behind the looks at " + what, machine.digest(), before);
        }
    }
}
