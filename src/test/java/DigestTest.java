/** Promise 26: the digest, computed anew from the other calls of the face. */
final class DigestTest {
    public static void main(String[] args) {
        checkBuffer();
        checkBuilt();
        checkShares();
        checkLongRun();
        Due.end();
    }

    private static void checkBuffer() {
        GreenMachines machine = new GreenMachines();
        check(machine, "new", 2, "");
        Due.type(machine, "p0");
        check(machine, "with a buffer", 2, "p0");
        machine.clearBuffer();
        machine.set(4);
        check(machine, "with other ticks of clearing", 4, "");
    }

    private static void checkBuilt() {
        check(Due.built("p05*9;p*1;p012*4;r0>1;r0>2?05;x01;r2>0?4;r1>2?13"), "built", 2, "");
        GreenMachines round = Due.built("p5*1;p*1;p1*1;p2*1;p3*1;p4*1;p0*1;p01*9;x01");
        for (int phase = 0; phase < 8; phase++) {
            round.addRule(phase, (phase + 1) % 8, phase == 6 ? 1 : 0);
        }
        check(round, "a round of 8", 2, "");
    }

    private static void checkShares() {
        for (int phases = 1; phases <= 8; phases++) {
            for (int safe = 0; safe <= phases; safe++) {
                GreenMachines machine = new GreenMachines();
                machine.clash(4, 5);
                for (int phase = 0; phase < phases; phase++) {
                    machine.addPhase(phase < safe ? 0b011111 : 0b110000, 3);
                }
                check(machine, "safe " + safe + " of " + phases, 2, "");
            }
        }
    }

    /** A check takes most of a machine's 512 calls: each state is reached anew. */
    private static void checkLongRun() {
        for (int steps = 0; steps <= 100; steps++) {
            check(ran(steps, 0), "step " + steps, 2, "");
        }
        for (int undone = 1; undone <= 6; undone++) {
            check(ran(50, undone), "undo " + undone, 2, "");
        }
    }

    private static GreenMachines ran(int steps, int undone) {
        GreenMachines machine = Due.built("p0*2;p12*1;p3*3;r0>1?12;r0>2?3;r1>2?3;r1>0;r2>0;x13");
        for (int step = 0; step < steps; step++) {
            machine.come(step * step % 6);
            machine.run(1 + step % 4);
        }
        for (int call = 0; call < undone; call++) {
            machine.undo();
        }
        return machine;
    }

    private static void check(GreenMachines machine, String name, int clearing, String buffer) {
        Due.same(name + ": digest()", machine.digest(), computed(machine, clearing, buffer));
    }

    private static long computed(GreenMachines machine, int clearing, String buffer) {
        long hash = 2803;
        for (int what = 0; what <= 11; what++) {
            hash = 31 * hash + machine.count(what);
        }
        hash = 31 * hash + clearing;
        for (int direction = 0; direction < 6; direction++) {
            for (int what = 0; what <= 5; what++) {
                hash = 31 * hash + machine.direction(direction, what);
            }
            hash = 31 * hash + machine.rounds(direction);
        }
        for (int phase = 0; phase < machine.count(0); phase++) {
            hash = withPhase(machine, hash, phase);
        }
        hash = 31 * hash + machine.slowest();
        hash = 31 * hash + Double.doubleToLongBits(machine.safeShare());
        hash = 31 * hash + buffer.length();
        for (int place = 0; place < buffer.length(); place++) {
            hash = 31 * hash + buffer.charAt(place);
        }
        return hash;
    }

    private static long withPhase(GreenMachines machine, long before, int phase) {
        long hash = before;
        for (int what = 0; what <= 5; what++) {
            hash = 31 * hash + machine.phase(phase, what);
        }
        for (int rule = 0; rule < machine.phase(phase, 2); rule++) {
            for (int what = 0; what <= 2; what++) {
                hash = 31 * hash + machine.rule(phase, rule, what);
            }
        }
        for (int direction = 0; direction < 6; direction++) {
            hash = 31 * hash + machine.starves(direction, phase);
            hash = 31 * hash + machine.waitFor(direction, phase, true);
            hash = 31 * hash + machine.waitFor(direction, phase, false);
            hash = 31 * hash + machine.remedy(direction, phase);
        }
        return hash;
    }
}
