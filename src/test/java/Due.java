/** What the tests share: they tell each call whose answer is not the one that is due. */
final class Due {
    /** A call of the face, with its answer as a long. */
    interface Call {
        long answer();
    }

    private static int wrong = 0;
    private static int asked = 0;

    private Due() {
    }

    static void same(String call, long got, long want) {
        asked++;
        if (got != want) {
            tell(call + " answered " + got + ", due is " + want);
        }
    }

    static void share(String call, double got, double want) {
        asked++;
        if (Double.doubleToLongBits(got) != Double.doubleToLongBits(want)) {
            tell(call + " answered " + got + ", due is " + want);
        }
    }

    /** The call throws just this exception, and changes nothing: the digest of the machine stays. */
    static void thrown(GreenMachines machine, String call, Class<? extends RuntimeException> want, Call body) {
        asked++;
        long before = machine.digest();
        try {
            long got = body.answer();
            tell(call + " answered " + got + ", due is " + want.getSimpleName());
        } catch (RuntimeException thrown) {
            if (thrown.getClass() != want) {
                tell(call + " threw " + thrown + ", due is " + want.getSimpleName());
            }
        }
        if (machine.digest() != before) {
            tell(call + " threw, but changed the machine");
        }
    }

    private static void tell(String text) {
        wrong++;
        System.out.println(text);
    }

    static void end() {
        System.out.println(asked + " answers, " + wrong + " not as due");
        if (wrong != 0) {
            System.exit(1);
        }
    }

    /** Appends a whole text to the buffer. */
    static void type(GreenMachines machine, String text) {
        for (int place = 0; place < text.length(); place++) {
            machine.append(text.charAt(place));
        }
    }

    /** A new machine, built from a text. */
    static GreenMachines built(String text) {
        GreenMachines machine = new GreenMachines();
        type(machine, text);
        machine.build();
        return machine;
    }
}
