/** 'Proofs' and promises 20 to 26: a test for each edge that they name. */
final class EdgesOfProofsTest {
    private static final Class<IllegalArgumentException> ARGUMENT = IllegalArgumentException.class;
    private static final Class<IndexOutOfBoundsException> INDEX = IndexOutOfBoundsException.class;
    private static final int NONE = GreenMachines.NONE;
    private static final String EIGHT = "p*1;p*1;p*1;p*1;p*1;p*1;p*1;p*1";

    public static void main(String[] args) {
        othersComeAndGo();
        behindOneWithoutAskers();
        behindOneWithTheDirection();
        withoutAskersItself();
        withTheDirectionItself();
        askersOfRulesAhead();
        stayingForEver();
        stayingInAGreenPhase();
        fromAGreenPhase();
        byARoundOfPhases();
        byAWayToARound();
        notByRulesThatAreNotFollowed();
        fromPhasesThatCanCome();
        starvesArguments();
        roundsArguments();
        roundsWithoutPhases();
        roundsLeaveOutTheWay();
        roundsLeaveOutWhatCannotCome();
        roundsLeaveOutGreenPhases();
        roundsOfAll();
        waitForArguments();
        waitOfAGreenPhase();
        waitOfEachHoldAndClearing();
        waitOfSameGreens();
        waitOfAClearingThatGoesOn();
        longestWaitOfAll();
        longestWaitIfItCanStarve();
        shortestWaitIfItCanStarve();
        shortestWaitWithoutAWay();
        mostAndLeastOfSeveral();
        waitsAsTheMachineIsNow();
        proofsChangeNothing();
        slowestWithoutAny();
        slowestOfSeveral();
        slowestOfThoseThatNeverWait();
        slowestOfPhasesThatCanCome();
        remedyArguments();
        remedyIfItCannotStarve();
        remedyOfOnePhase();
        remedyIsTheLowestOne();
        remedyIsFollowedFirst();
        remedyWithFourRules();
        remedyLetsPhasesCome();
        remedyOfAPhaseThatCannotCome();
        safeShareWithoutPhases();
        safeShareOfPhases();
        digestOfTheBuffer();
        digestOfEachPart();
        Due.end();
    }

    // ---- which rules can be followed

    private static void othersComeAndGo() {
        Due.says("let others come and go as they like: who waits now does not matter");
        GreenMachines machine = Due.built("p0*1;p1*1;p2*1;r0>1?1;r0>2?2;r1>0;r2>0");
        int starving = machine.count(10);
        Due.same("waitFor(2, 0, true)", machine.waitFor(2, 0, true), NONE);
        machine.come(1);
        machine.come(2);
        machine.come(5);
        Due.same("waitFor(2, 0, true) when they wait", machine.waitFor(2, 0, true), NONE);
        Due.same("count(10) when they wait", machine.count(10), starving);
    }

    private static void behindOneWithoutAskers() {
        Due.says("a rule can be followed if no rule ahead of it is without askers");
        GreenMachines behind = Due.built("p0*1;p*1;p1*1;r0>1;r0>2;r1>0");
        Due.same("waitFor(1, 0, false), behind one", behind.waitFor(1, 0, false), NONE);
        GreenMachines ahead = Due.built("p0*1;p*1;p1*1;r0>2;r0>1;r1>0");
        Due.same("waitFor(1, 0, false), ahead of it", ahead.waitFor(1, 0, false), 3);
        Due.same("starves(1, 0), ahead of it", ahead.starves(1, 0), 0);
        GreenMachines asked = Due.built("p0*1;p*1;p1*1;r0>1?5;r0>2;r1>0");
        Due.same("waitFor(1, 0, false), behind one with askers", asked.waitFor(1, 0, false), 3);
    }

    private static void behindOneWithTheDirection() {
        Due.says("a rule can be followed if no rule ahead of it has d among its askers");
        GreenMachines behind = Due.built("p0*1;p*1;p1*1;r0>1?12;r0>2?5;r1>0");
        Due.same("waitFor(1, 0, false), behind one with 1", behind.waitFor(1, 0, false), NONE);
        GreenMachines other = Due.built("p0*1;p*1;p1*1;r0>1?02;r0>2?5;r1>0");
        Due.same("waitFor(1, 0, false), behind one without 1", other.waitFor(1, 0, false), 3);
    }

    private static void withoutAskersItself() {
        Due.says("and it is without askers itself");
        GreenMachines machine = Due.built("p0*1;p*1;p1*1;r0>1?02345;r0>2;r1>0");
        Due.same("waitFor(1, 0, false), behind one with all others", machine.waitFor(1, 0, false), 3);
    }

    private static void withTheDirectionItself() {
        Due.says("or has d among its askers");
        GreenMachines with = Due.built("p0*1;p*1;p1*1;r0>1?02345;r0>2?1;r1>0");
        Due.same("waitFor(1, 0, false)", with.waitFor(1, 0, false), 3);
        GreenMachines without = Due.built("p0*1;p*1;p1*1;r0>1?02345;r0>2?5;r1>0");
        Due.same("waitFor(1, 0, false) with another one", without.waitFor(1, 0, false), NONE);
    }

    private static void askersOfRulesAhead() {
        Due.says("or has an asker that no rule ahead of it has");
        String[] texts = {"r0>1?2;r0>2?2", "r0>1?23;r0>2?2", "r0>1?2;r0>1?3;r0>2?23", "r0>1?2;r0>2?23",
            "r0>1?2;r0>1?3;r0>2?234", "r0>1?2;r0>1?2;r0>1?2;r0>2?3", "r0>1?0345;r0>2?2"};
        int[] shortest = {NONE, NONE, NONE, 3, 3, 3, 3};
        for (int text = 0; text < texts.length; text++) {
            GreenMachines machine = Due.built("p0*1;p*1;p1*1;" + texts[text]);
            Due.same("waitFor(1, 0, false) with " + texts[text], machine.waitFor(1, 0, false), shortest[text]);
            Due.same("starves(1, 0) with " + texts[text], machine.starves(1, 0), 1);
        }
        for (int asker = 0; asker < 6; asker++) {
            GreenMachines first = Due.built("p0*1;p*1;p1*1");
            first.addRule(0, 2, 1 << asker);
            Due.same("waitFor(1, 0, false), asked by " + asker + " as the first", first.waitFor(1, 0, false), 3);
            first.dropRule(0);
            first.addRule(0, 1, 0b111101 & ~(1 << asker));
            first.addRule(0, 2, 0b111101);
            Due.same("waitFor(1, 0, false), behind all but " + asker, first.waitFor(1, 0, false), asker == 1 ? NONE : 3);
        }
    }

    private static void stayingForEver() {
        Due.says("The machine can stay in a phase for ever if no rule of it is without askers, "
                + "and none has d among its askers");
        String[] texts = {"p0*1;p1*1", "p0*1;p1*1;r0>1?02345", "p0*1;p1*1;r0>1", "p0*1;p1*1;r0>1?1",
            "p0*1;p1*1;r0>1?0;r0>1?2;r0>1?3;r0>1?45", "p0*1;p1*1;r0>1?0;r0>1?2;r0>1?3;r0>1",
            "p0*1;p1*1;r0>1?0;r0>1?2;r0>1?3;r0>1?15"};
        int[] starves = {1, 1, 0, 0, 1, 0, 0};
        for (int text = 0; text < texts.length; text++) {
            GreenMachines machine = Due.built(texts[text]);
            Due.same("starves(1, 0) in " + texts[text], machine.starves(1, 0), starves[text]);
            Due.same("rounds(1) in " + texts[text], machine.rounds(1), starves[text]);
        }
    }

    private static void stayingInAGreenPhase() {
        Due.says("through phases without d among their greens alone, to a phase where it can stay for ever: "
                + "until it is green");
        GreenMachines machine = Due.built("p0*1;p1*1;r0>1");
        Due.same("starves(1, 0)", machine.starves(1, 0), 0);
        Due.same("waitFor(1, 0, true)", machine.waitFor(1, 0, true), 3);
        Due.same("rounds(1)", machine.rounds(1), 0);
    }

    // ---- promise 20: who can starve

    private static void fromAGreenPhase() {
        Due.says("d can starve from a phase without d among its greens");
        GreenMachines machine = Due.built("p0*1;p*1;r0>1");
        Due.same("starves(0, 0), though it can from the next one", machine.starves(0, 0), 0);
        Due.same("starves(0, 1)", machine.starves(0, 1), 1);
        Due.same("starves(5, 0)", machine.starves(5, 0), 1);
        Due.same("count(10)", machine.count(10), 63);
    }

    private static void byARoundOfPhases() {
        Due.says("to a phase that comes again by such a way (a round)");
        GreenMachines two = Due.built("p0*1;p1*1;r0>1;r1>0");
        Due.same("starves(2, 0), a round of two", two.starves(2, 0), 1);
        Due.same("starves(1, 0), a green in it", two.starves(1, 0), 0);
        GreenMachines eight = new GreenMachines();
        for (int phase = 0; phase < 8; phase++) {
            eight.addPhase(phase == 7 ? 3 : 1, 1);
        }
        for (int phase = 0; phase < 8; phase++) {
            eight.addRule(phase, (phase + 1) % 8, 0);
        }
        Due.same("starves(2, 3), a round of eight", eight.starves(2, 3), 1);
        Due.same("rounds(2)", eight.rounds(2), 255);
        Due.same("starves(1, 0), a green at its end", eight.starves(1, 0), 0);
        Due.same("rounds(1)", eight.rounds(1), 0);
        eight.addRule(0, 4, 0);
        Due.same("starves(1, 0), with a rule behind it", eight.starves(1, 0), 0);
    }

    private static void byAWayToARound() {
        Due.says("if by rules that can be followed one gets from it, through phases without d alone, to a round");
        GreenMachines way = Due.built("p0*1;p0*1;p0*1;p1*1;r0>1?2;r0>3;r1>2;r2>1");
        Due.same("starves(1, 0)", way.starves(1, 0), 1);
        Due.same("waitFor(1, 0, true)", way.waitFor(1, 0, true), NONE);
        GreenMachines through = Due.built("p0*1;p1*1;p0*1;p0*1;r0>1;r1>2;r2>3;r3>2");
        Due.same("starves(1, 0), through a green", through.starves(1, 0), 0);
        Due.same("starves(1, 1), the green itself", through.starves(1, 1), 0);
        Due.same("starves(1, 2), behind it", through.starves(1, 2), 1);
        Due.same("count(10)", through.count(10), 0b111110);
    }

    private static void notByRulesThatAreNotFollowed() {
        Due.says("if by rules that can be followed: not by others");
        GreenMachines machine = Due.built("p0*1;p1*1;p0*1;r0>1?1;r0>2?2;r2>0;r1>0");
        Due.same("starves(1, 0), 2 comes behind 1", machine.starves(1, 0), 0);
        Due.same("starves(1, 2)", machine.starves(1, 2), 0);
        Due.same("phase(2, 4), by any rules", machine.phase(2, 4), 1);
        Due.same("starves(3, 0), 2 comes ahead of it", machine.starves(3, 0), 1);
    }

    private static void fromPhasesThatCanCome() {
        Due.says("d can starve if it can from some phase that can come");
        GreenMachines machine = Due.built("p0*1;p*1;r1>0?1");
        Due.same("starves(0, 1), which cannot come", machine.starves(0, 1), 1);
        Due.same("count(10)", machine.count(10), 0b111110);
        machine.addRule(0, 1, 63);
        Due.same("count(10) when it can", machine.count(10), 0b111111);
    }

    private static void starvesArguments() {
        Due.says("Promise 20: IndexOutOfBoundsException if there is no such phase");
        GreenMachines none = new GreenMachines();
        Due.thrown(none, "starves(0, 0) without phases", INDEX, () -> none.starves(0, 0));
        GreenMachines machine = Due.built(EIGHT);
        Due.outside(machine, "starves(0, phase)", INDEX, 0, 7, number -> machine.starves(0, number));
        Due.says("Promise 20: IllegalArgumentException if direction is out of range");
        Due.outside(machine, "starves(direction, 7)", ARGUMENT, 0, 5, number -> machine.starves(number, 7));
        machine.change(7, 32, 1);
        Due.same("starves(0, 7)", machine.starves(0, 7), 1);
        Due.same("starves(5, 7)", machine.starves(5, 7), 0);
        Due.same("starves(5, 0)", machine.starves(5, 0), 1);
    }

    // ---- promise 21: rounds

    private static void roundsArguments() {
        Due.says("Promise 21: IllegalArgumentException if direction is out of range");
        GreenMachines machine = Due.built("p5*1;p*1");
        Due.outside(machine, "rounds()", ARGUMENT, 0, 5, machine::rounds);
        Due.same("rounds(0)", machine.rounds(0), 1);
        Due.same("rounds(5)", machine.rounds(5), 0);
    }

    private static void roundsWithoutPhases() {
        Due.says("Promise 21: 0 if there are none");
        GreenMachines machine = new GreenMachines();
        for (int direction = 0; direction < 6; direction++) {
            Due.same("rounds(" + direction + ") without phases", machine.rounds(direction), 0);
        }
    }

    private static void roundsLeaveOutTheWay() {
        Due.says("Promise 21: each of which can stay for ever, or comes again by a way as told");
        GreenMachines stay = Due.built("p0*1;p0*1;p0*1;r0>1;r1>2");
        Due.same("rounds(1), a way to one that stays", stay.rounds(1), 0b100);
        GreenMachines round = Due.built("p0*1;p0*1;p0*1;r0>1;r1>2;r2>1");
        Due.same("rounds(1), a way to a round", round.rounds(1), 0b110);
        GreenMachines both = Due.built("p0*1;p0*1;p0*1;r0>1?3;r1>2;r2>1");
        Due.same("rounds(1), one that stays ahead of a round", both.rounds(1), 0b111);
        GreenMachines out = Due.built("p0*1;p0*1;p1*1;r0>1;r1>0?3;r1>2");
        Due.same("rounds(1), a round with a way out", out.rounds(1), 0b011);
        Due.same("starves(1, 0), a round with a way out", out.starves(1, 0), 1);
    }

    private static void roundsLeaveOutWhatCannotCome() {
        Due.says("Promise 21: the phases that can come");
        GreenMachines machine = Due.built("p0*1;p1*1;p0*1;p0*1;r0>1;r1>0;r2>3;r3>2");
        Due.same("rounds(1)", machine.rounds(1), 0);
        Due.same("starves(1, 2)", machine.starves(1, 2), 1);
        machine.start(3);
        Due.same("rounds(1) from 3", machine.rounds(1), 0b1100);
        Due.same("rounds(0) from 3", machine.rounds(0), 0);
    }

    private static void roundsLeaveOutGreenPhases() {
        Due.says("Promise 21: that have not this direction among their greens");
        GreenMachines stay = Due.built("p1*1;p0*1;r1>0");
        Due.same("rounds(1), one that stays, but green", stay.rounds(1), 0);
        GreenMachines round = Due.built("p0*1;p01*1;p0*1;r0>1?2;r0>2;r1>0;r2>0");
        Due.same("rounds(1), the round without the green", round.rounds(1), 0b101);
        Due.same("rounds(3)", round.rounds(3), 0b111);
        Due.same("rounds(0)", round.rounds(0), 0);
    }

    private static void roundsOfAll() {
        Due.says("Promise 21: Returns the phases, as a mask");
        GreenMachines machine = Due.built(EIGHT);
        for (int phase = 0; phase < 7; phase++) {
            machine.addRule(phase, phase + 1, 1);
        }
        Due.same("rounds(1), all stay", machine.rounds(1), 255);
        Due.same("rounds(0), the last one stays", machine.rounds(0), 128);
        machine.addRule(7, 0, 1);
        Due.same("rounds(0), a round of all", machine.rounds(0), 255);
    }

    // ---- promise 22: waits

    private static void waitForArguments() {
        Due.says("Promise 22: IndexOutOfBoundsException if there is no such phase");
        GreenMachines none = new GreenMachines();
        Due.thrown(none, "waitFor(0, 0, true) without phases", INDEX, () -> none.waitFor(0, 0, true));
        Due.thrown(none, "waitFor(0, 0, false) without phases", INDEX, () -> none.waitFor(0, 0, false));
        GreenMachines machine = Due.built("p5*1;p0*1");
        Due.outside(machine, "waitFor(0, phase, true)", INDEX, 0, 1, number -> machine.waitFor(0, number, true));
        Due.outside(machine, "waitFor(0, phase, false)", INDEX, 0, 1, number -> machine.waitFor(0, number, false));
        Due.says("Promise 22: IllegalArgumentException if direction is out of range");
        Due.outside(machine, "waitFor(direction, 0, true)", ARGUMENT, 0, 5, number -> machine.waitFor(number, 0, true));
        Due.outside(machine, "waitFor(direction, 0, false)", ARGUMENT, 0, 5,
                number -> machine.waitFor(number, 0, false));
        Due.same("waitFor(5, 0, true)", machine.waitFor(5, 0, true), 0);
        Due.same("waitFor(0, 1, false)", machine.waitFor(0, 1, false), 0);
    }

    private static void waitOfAGreenPhase() {
        Due.says("The longest wait: 0 if d is among its greens");
        GreenMachines machine = Due.built("p0*9;p1*9;r0>1;r1>0");
        Due.same("waitFor(0, 0, true)", machine.waitFor(0, 0, true), 0);
        Due.same("waitFor(0, 0, false)", machine.waitFor(0, 0, false), 0);
        machine.dropRule(1);
        Due.same("waitFor(0, 0, true), though it can starve from 1", machine.waitFor(0, 0, true), 0);
    }

    private static void waitOfEachHoldAndClearing() {
        Due.says("otherwise its hold, the ticks of clearing, and the longest wait from there");
        for (int hold = 1; hold <= 9; hold++) {
            GreenMachines machine = new GreenMachines();
            machine.addPhase(1, hold);
            machine.addPhase(2, 9);
            machine.addRule(0, 1, 0);
            for (int ticks = 0; ticks <= 5; ticks++) {
                machine.set(ticks);
                Due.same("longest of hold " + hold + " and " + ticks, machine.waitFor(1, 0, true), hold + ticks);
                Due.same("shortest of hold " + hold + " and " + ticks, machine.waitFor(1, 0, false), hold + ticks);
            }
        }
    }

    private static void waitOfSameGreens() {
        Due.says("the ticks of clearing (0 if both phases have the same greens)");
        GreenMachines machine = Due.built("p0*3;p0*4;p1*1;r0>1;r1>2");
        machine.set(5);
        Due.same("waitFor(1, 1, true)", machine.waitFor(1, 1, true), 9);
        Due.same("waitFor(1, 0, true)", machine.waitFor(1, 0, true), 12);
        machine.change(0, 0, 3);
        Due.same("waitFor(1, 0, true) with other greens", machine.waitFor(1, 0, true), 17);
        machine.change(1, 0, 4);
        Due.same("waitFor(1, 0, false) with no greens each", machine.waitFor(1, 0, false), 12);
    }

    private static void waitOfAClearingThatGoesOn() {
        Due.says("from the tick in which the machine is in this phase for 0 ticks on: not from now");
        GreenMachines machine = Due.built("p0*3;p1*3;r0>1;r1>0");
        for (int tick = 0; tick < 8; tick++) {
            Due.same("waitFor(1, 0, true) in tick " + tick, machine.waitFor(1, 0, true), 5);
            Due.same("waitFor(0, 1, false) in tick " + tick, machine.waitFor(0, 1, false), 5);
            machine.run(1);
        }
        machine.set(4);
        Due.same("waitFor(1, 0, true) with other ticks", machine.waitFor(1, 0, true), 7);
    }

    private static void longestWaitOfAll() {
        Due.says("The longest wait of d from a phase is the most ticks: the most that there can be");
        GreenMachines machine = new GreenMachines();
        for (int phase = 0; phase < 7; phase++) {
            machine.addPhase(1 + phase % 2, 9);
        }
        machine.addPhase(32, 9);
        for (int phase = 0; phase < 7; phase++) {
            machine.addRule(phase, phase + 1, 0);
        }
        machine.set(5);
        for (int phase = 0; phase < 8; phase++) {
            Due.same("longest from " + phase, machine.waitFor(5, phase, true), 14 * (7 - phase));
            Due.same("shortest from " + phase, machine.waitFor(5, phase, false), 14 * (7 - phase));
        }
        Due.same("slowest()", machine.slowest(), 5);
        machine.change(7, 0, 9);
        for (int phase = 0; phase < 8; phase++) {
            Due.same("longest without a green", machine.waitFor(5, phase, true), NONE);
            Due.same("shortest without a green", machine.waitFor(5, phase, false), NONE);
        }
        GreenMachines back = Due.built("p0*9;p1*9;p*9;p1*9;p*9;p1*9;p*9;p1*9");
        for (int phase = 1; phase < 8; phase++) {
            back.addRule(phase, phase - 1, 0);
        }
        back.set(5);
        Due.same("longest, with the phases the other way round", back.waitFor(0, 7, true), 98);
        Due.same("shortest, with the phases the other way round", back.waitFor(0, 7, false), 98);
    }

    private static void longestWaitIfItCanStarve() {
        Due.says("It is none, if d can starve from the phase");
        GreenMachines machine = Due.built("p0*1;p0*1;p1*1;r0>1?5;r0>2;r1>2?4");
        Due.same("waitFor(1, 1, true), where it stays", machine.waitFor(1, 1, true), NONE);
        Due.same("waitFor(1, 0, true), ahead of it", machine.waitFor(1, 0, true), NONE);
        Due.same("waitFor(1, 2, true), where it is green", machine.waitFor(1, 2, true), 0);
        machine.addRule(1, 2, 2);
        Due.same("waitFor(1, 1, true) then", machine.waitFor(1, 1, true), 3);
        Due.same("waitFor(1, 0, true) then", machine.waitFor(1, 0, true), 4);
    }

    private static void shortestWaitIfItCanStarve() {
        Due.says("The shortest wait is the fewest ticks (it is asked even if d can starve)");
        GreenMachines machine = Due.built("p0*2;p0*3;p1*1;r0>1?5;r0>2;r1>2?4");
        Due.same("waitFor(1, 0, false)", machine.waitFor(1, 0, false), 4);
        Due.same("waitFor(1, 1, false)", machine.waitFor(1, 1, false), 5);
        Due.same("waitFor(1, 2, false)", machine.waitFor(1, 2, false), 0);
        GreenMachines round = Due.built("p0*2;p0*3;p1*1;r0>1;r1>0?5;r1>2");
        Due.same("waitFor(1, 0, false), by a way out of a round", round.waitFor(1, 0, false), 7);
        Due.same("waitFor(1, 0, true), for ever in the round", round.waitFor(1, 0, true), NONE);
    }

    private static void shortestWaitWithoutAWay() {
        Due.says("the fewest ticks (none, if there is no such way)");
        GreenMachines machine = Due.built("p0*1;p0*1;p1*1;r0>1;r1>0;r0>2;r2>0");
        Due.same("waitFor(1, 0, false), from a round", machine.waitFor(1, 0, false), NONE);
        Due.same("waitFor(1, 1, false), from a round", machine.waitFor(1, 1, false), NONE);
        Due.same("waitFor(5, 2, false), without a green", machine.waitFor(5, 2, false), NONE);
        Due.same("waitFor(0, 2, false), with a way", machine.waitFor(0, 2, false), 3);
    }

    private static void mostAndLeastOfSeveral() {
        Due.says("the most of all these; likewise, with the least of all these");
        String[] texts = {"r0>1?2;r0>2?3;r0>3", "r0>3?2;r0>2?3;r0>1", "r0>2?2;r0>1?3;r0>3", "r0>2?2;r0>3?3;r0>1?1"};
        for (String text : texts) {
            GreenMachines machine = Due.built("p0*1;p2*2;p3*9;p1*1;r1>3;r2>3;" + text);
            Due.same("longest with " + text, machine.waitFor(1, 0, true), 14);
            Due.same("shortest with " + text, machine.waitFor(1, 0, false), 3);
        }
    }

    private static void waitsAsTheMachineIsNow() {
        Due.says("The longest wait of d from a phase: of the machine as it is then, of its first and last phase too");
        GreenMachines machine = Due.built("p*1;p*1;p*1;p*1;p*1;p*1;p*1;p0*1;r0>7;r7>0");
        int[] phases = {0, 7};
        for (int phase : phases) {
            machine.change(phase, 2, 9);
            machine.change(7 - phase, 1, 9);
            Due.same("waitFor(0, " + phase + ", true), not green", machine.waitFor(0, phase, true), 11);
            Due.same("waitFor(0, " + phase + ", false), not green", machine.waitFor(0, phase, false), 11);
            machine.change(phase, 1, 9);
            Due.same("waitFor(0, " + phase + ", true), green", machine.waitFor(0, phase, true), 0);
            Due.same("waitFor(0, " + phase + ", false), green", machine.waitFor(0, phase, false), 0);
            machine.change(phase, 2, 3);
            Due.same("waitFor(0, " + phase + ", true), for less", machine.waitFor(0, phase, true), 5);
            Due.same("waitFor(0, " + phase + ", false), for less", machine.waitFor(0, phase, false), 5);
            machine.change(7 - phase, 2, 9);
            Due.same("waitFor(0, " + phase + ", true), without a green", machine.waitFor(0, phase, true), NONE);
            Due.same("waitFor(0, " + phase + ", false), without a green", machine.waitFor(0, phase, false), NONE);
        }
    }

    private static void proofsChangeNothing() {
        Due.says("---- proofs; nothing is changed");
        GreenMachines machine = Due.built("p0*1;p1*2;p2*3;r0>1?1;r0>2?2;r1>0;r2>0;x01;x12");
        machine.come(1);
        machine.run(2);
        machine.append('p');
        long before = machine.digest();
        for (int direction = 0; direction < 6; direction++) {
            for (int phase = 0; phase < 3; phase++) {
                machine.starves(direction, phase);
                machine.waitFor(direction, phase, true);
                machine.waitFor(direction, phase, false);
                machine.remedy(direction, phase);
            }
            machine.rounds(direction);
            Due.same("digest() behind the proofs of " + direction, machine.digest(), before);
        }
        machine.slowest();
        machine.safeShare();
        Due.same("digest() behind slowest() and safeShare()", machine.digest(), before);
    }

    // ---- promise 23: slowest

    private static void slowestWithoutAny() {
        Due.says("Promise 23: NONE if there is none");
        Due.same("slowest() without phases", new GreenMachines().slowest(), NONE);
        Due.same("slowest() without greens", Due.built("p*1").slowest(), NONE);
        Due.same("slowest() of the one that cannot starve", Due.built("p0*1;p1*1;r0>1").slowest(), 1);
        GreenMachines all = Due.built("p0*1;p1*1;r0>1?5;r1>0?5");
        Due.same("slowest() if all can starve", all.slowest(), NONE);
        Due.same("count(10), all can starve", all.count(10), 63);
    }

    private static void slowestOfSeveral() {
        Due.says("Promise 23: the one with the greatest longest wait, of several the lowest one");
        GreenMachines machine = Due.built("p0*1;p12*1;p345*1;r0>1;r1>2;r2>0");
        Due.same("slowest() if all wait for 6", machine.slowest(), 0);
        machine.change(0, 1, 2);
        Due.same("slowest() if 1 to 5 wait for 7, 0 for 6", machine.slowest(), 1);
        machine.change(0, 1, 1);
        machine.change(1, 6, 2);
        Due.same("slowest() if 0, 3, 4, 5 wait for 7, 1 and 2 for 6", machine.slowest(), 0);
        GreenMachines last = Due.built("p0*9;p5*1;r0>1;r1>0");
        Due.same("slowest() if 5 waits for 11, 0 for 3", last.slowest(), 5);
    }

    private static void slowestOfThoseThatNeverWait() {
        Due.says("Promise 23: the greatest longest wait: also if it is 0");
        GreenMachines last = Due.built("p5*1");
        Due.same("slowest() of 5", last.slowest(), 5);
        GreenMachines two = Due.built("p35*1;p3*1;r0>1;r1>0");
        Due.same("slowest() of one that waits behind one that never does", two.slowest(), 5);
        GreenMachines never = Due.built("p35*1;p35*1;r0>1;r1>0");
        Due.same("slowest() of two that never wait", never.slowest(), 3);
    }

    private static void slowestOfPhasesThatCanCome() {
        Due.says("Promise 23: of the directions that are a green of some phase that can come, and cannot starve, "
                + "the greatest longest wait from a phase that can come");
        GreenMachines machine = Due.built("p0*1;p1*1;p2*9;r0>1;r1>0;r2>0");
        Due.same("slowest(), 2 cannot come", machine.slowest(), 0);
        machine.change(0, 1, 2);
        Due.same("slowest() of 1, ahead of which it is longer", machine.slowest(), 1);
        machine.start(2);
        Due.same("slowest() when 2 can come", machine.slowest(), 1);
        machine.change(2, 4, 1);
        Due.same("slowest() when the way from 2 is 3 + 4", machine.slowest(), 1);
        GreenMachines green = Due.built("p5*1;p0*1;r1>0");
        Due.same("slowest(), 0 is green where it cannot come", green.slowest(), 5);
        green.start(1);
        Due.same("slowest(), 0 can starve", green.slowest(), 5);
        Due.same("count(10), 0 can starve", green.count(10), 0b011111);
    }

    // ---- promise 24: remedy

    private static void remedyArguments() {
        Due.says("Promise 24: IndexOutOfBoundsException if there is no such phase");
        GreenMachines none = new GreenMachines();
        Due.thrown(none, "remedy(0, 0) without phases", INDEX, () -> none.remedy(0, 0));
        GreenMachines machine = Due.built("p0*1;p5*1");
        Due.outside(machine, "remedy(0, phase)", INDEX, 0, 1, number -> machine.remedy(0, number));
        Due.says("Promise 24: IllegalArgumentException if direction is out of range");
        Due.outside(machine, "remedy(direction, 0)", ARGUMENT, 0, 5, number -> machine.remedy(number, 0));
        Due.same("remedy(5, 0)", machine.remedy(5, 0), 1);
        Due.same("remedy(0, 1)", machine.remedy(0, 1), NONE);
    }

    private static void remedyIfItCannotStarve() {
        Due.says("Promise 24: NONE if it cannot starve already");
        GreenMachines machine = Due.built("p0*1;p1*1;p*1;r0>1;r1>0");
        Due.same("remedy(1, 0)", machine.remedy(1, 0), NONE);
        Due.same("remedy(1, 2), where it can starve, but which cannot come", machine.remedy(1, 2), NONE);
        machine.start(2);
        Due.same("remedy(1, 2), when it can come", machine.remedy(1, 2), 0);
        Due.same("remedy(1, 0), which does not help", machine.remedy(1, 0), NONE);
    }

    private static void remedyOfOnePhase() {
        Due.says("Promise 24: another phase; NONE if there is none");
        Due.same("remedy(0, 0) of one phase", Due.built("p*1").remedy(0, 0), NONE);
        GreenMachines machine = Due.built("p*1;p*1;p*1;p*1;p*1;p*1;p*1;p0*1");
        Due.same("remedy(0, 0) of eight", machine.remedy(0, 0), 7);
        Due.same("remedy(1, 0), without a green", machine.remedy(1, 0), NONE);
        Due.same("remedy(0, 7), of its green", machine.remedy(0, 7), NONE);
    }

    private static void remedyIsTheLowestOne() {
        Due.says("Promise 24: the lowest goal");
        GreenMachines machine = Due.built("p*1;p*1;p0*1;p0*1");
        Due.same("remedy(0, 0)", machine.remedy(0, 0), 2);
        machine.addRule(1, 3, 1);
        Due.same("remedy(0, 0) with a way from 1", machine.remedy(0, 0), 1);
        machine.start(3);
        machine.addRule(3, 1, 1);
        machine.dropRule(1);
        Due.same("remedy(0, 1), the phase ahead does not help", machine.remedy(0, 1), 2);
        machine.addRule(0, 3, 0);
        Due.same("remedy(0, 1), the phase ahead leads to it", machine.remedy(0, 1), 0);
    }

    private static void remedyIsFollowedFirst() {
        Due.says("Promise 24: if a rule to this goal was added as its first one, "
                + "with this direction alone as its asker");
        GreenMachines staying = Due.built("p*1;p0*1;p*1;r0>2?3");
        Due.same("remedy(0, 0), the old rule comes behind it", staying.remedy(0, 0), NONE);
        staying.addRule(2, 0, 0);
        Due.same("remedy(0, 0), from 2 it leads back", staying.remedy(0, 0), 1);
        Due.same("remedy(0, 2), at 0 it stays", staying.remedy(0, 2), NONE);
        GreenMachines round = Due.built("p*1;p*1;p0*1;r0>1;r1>0");
        Due.same("remedy(0, 0), ahead of a rule without askers", round.remedy(0, 0), 2);
        Due.same("remedy(0, 1), ahead of a rule without askers", round.remedy(0, 1), 2);
        GreenMachines asked = Due.built("p*1;p*1;p0*1;r0>1?0;r1>0");
        Due.same("remedy(0, 0), ahead of a rule that it asks for", asked.remedy(0, 0), 2);
    }

    private static void remedyWithFourRules() {
        Due.says("Promise 24: (that the phase may have 4 rules does not matter)");
        GreenMachines machine = Due.built("p*1;p*1;p0*1;r0>1;r0>1;r0>1;r0>1;r1>0");
        Due.same("remedy(0, 0)", machine.remedy(0, 0), 2);
        Due.same("rules of 0 stay", machine.phase(0, 2), 4);
        Due.same("starves(0, 0) stays", machine.starves(0, 0), 1);
        Due.same("count(7) stays", machine.count(7), 2);
        Due.same("count(11) stays", machine.count(11), 1);
    }

    private static void remedyLetsPhasesCome() {
        Due.says("Promise 24: from no phase that can come then (with this rule, too)");
        GreenMachines machine = Due.built("p*1;p0*1;p0*1;p*1;r1>3");
        Due.same("remedy(0, 0), 1 lets 3 come", machine.remedy(0, 0), 2);
        machine.addRule(3, 2, 1);
        Due.same("remedy(0, 0), 3 leads to 2", machine.remedy(0, 0), 1);
        machine.dropRule(3);
        machine.addRule(0, 3, 5);
        Due.same("remedy(0, 0), the old rules let 3 come too", machine.remedy(0, 0), NONE);
    }

    private static void remedyOfAPhaseThatCannotCome() {
        Due.says("Promise 24: the number of a phase: also of one that cannot come");
        GreenMachines machine = Due.built("p*1;p*1;p0*1;r1>0");
        Due.same("remedy(0, 1), which cannot come", machine.remedy(0, 1), NONE);
        Due.same("remedy(0, 2), which is green", machine.remedy(0, 2), NONE);
        Due.same("remedy(0, 0)", machine.remedy(0, 0), 2);
        machine.start(1);
        Due.same("remedy(0, 1), behind which is 0", machine.remedy(0, 1), NONE);
        machine.addRule(0, 1, 0);
        Due.same("remedy(0, 1), in a round", machine.remedy(0, 1), 2);
        Due.same("remedy(0, 0), in a round", machine.remedy(0, 0), 2);
    }

    // ---- promises 25 and 26

    private static void safeShareWithoutPhases() {
        Due.says("Promise 25: 1.0 without phases");
        GreenMachines machine = new GreenMachines();
        Due.share("safeShare()", machine.safeShare(), 1.0);
        machine.clash(0, 1);
        Due.share("safeShare() with a clash", machine.safeShare(), 1.0);
        machine.addPhase(3, 1);
        Due.share("safeShare() with a phase", machine.safeShare(), 0.0);
        machine.undo();
        Due.share("safeShare() without it", machine.safeShare(), 1.0);
    }

    private static void safeShareOfPhases() {
        Due.says("Promise 25: the phases in which no greens clash, as a double, divided by all phases");
        for (int phases = 1; phases <= 8; phases++) {
            GreenMachines machine = new GreenMachines();
            machine.clash(0, 5);
            for (int phase = 0; phase < phases; phase++) {
                machine.addPhase(1, 1);
            }
            for (int safe = phases; safe >= 0; safe--) {
                Due.share("safeShare() " + safe + " of " + phases, machine.safeShare(), (double) safe / phases);
                if (safe > 0) {
                    machine.change(safe - 1, 33, 1);
                }
            }
        }
    }

    private static void digestOfTheBuffer() {
        Due.says("Promise 26: the length of the buffer and each of its character codes");
        GreenMachines machine = new GreenMachines();
        // an empty buffer ends the hash with its length 0
        long ahead = machine.digest();
        for (int length = 1; length <= 60; length++) {
            machine.append(33 + length);
            long hash = ahead + length;
            for (int place = 1; place <= length; place++) {
                hash = 31 * hash + 33 + place;
            }
            Due.same("digest() with a buffer of " + length, machine.digest(), hash);
        }
    }

    private static void digestOfEachPart() {
        Due.says("Promise 26: a hash of the whole state: each part of it counts");
        GreenMachines machine = Due.built("p0*1;p1*1;p*1;r0>1;r1>0?4");
        long[] seen = new long[12];
        int states = 0;
        seen[states++] = machine.digest();
        machine.set(3);
        seen[states++] = machine.digest();
        machine.clash(0, 1);
        seen[states++] = machine.digest();
        machine.come(2);
        seen[states++] = machine.digest();
        machine.come(2);
        seen[states++] = machine.digest();
        machine.run(1);
        seen[states++] = machine.digest();
        machine.change(2, 0, 9);
        seen[states++] = machine.digest();
        machine.addRule(2, 1, 0);
        seen[states++] = machine.digest();
        machine.start(0);
        seen[states++] = machine.digest();
        machine.undo();
        seen[states++] = machine.digest();
        machine.append('p');
        seen[states++] = machine.digest();
        machine.dropRule(1);
        seen[states++] = machine.digest();
        for (int one = 0; one < states; one++) {
            for (int other = 0; other < one; other++) {
                Due.same("digest() of the states " + one + " and " + other, seen[one] == seen[other] ? 1 : 0, 0);
            }
        }
    }
}
