/** What the tests share: they tell each call whose answer is not the one that is due. */
final class Due {
    /** A call of the face, with its answer as a long. */
    interface Call {
        long answer();
    }

    /** A call of the face with one argument left open. */
    interface CallWith {
        long answer(int number);
    }

    private static int wrong = 0;
    private static int asked = 0;
    private static String sentence = "";

    private Due() {
    }

    /** The document's words by which the next answers are due; each wrong answer is told with them. */
    static void says(String words) {
        sentence = "[" + words + "] ";
    }

    static void same(String call, long got, long want) {
        asked++;
        if (got != want) {
            tell(call + " answered " + got + ", due is " + want);
        }
    }

    static void share(String call, double got, double want) {
        asked++;
        if (Double.doubleToLongBits(got) != Double.doubleToLongBits(want)) {
            tell(call + " answered " + got + ", due is " + want);
        }
    }

    /** The call throws just this exception, and changes nothing: the digest of the machine stays. */
    static void thrown(GreenMachines machine, String call, Class<? extends RuntimeException> want, Call body) {
        asked++;
        long before = machine.digest();
        try {
            long got = body.answer();
            tell(call + " answered " + got + ", due is " + want.getSimpleName());
        } catch (RuntimeException thrown) {
            if (thrown.getClass() != want) {
                tell(call + " threw " + thrown + ", due is " + want.getSimpleName());
            }
        }
        if (machine.digest() != before) {
            tell(call + " threw, but changed the machine");
        }
    }

    /**
     * Each number out of the range is refused: those beside its ends, and those far away that shifts and
     * casts would take for one within. It takes 24 of the machine's 512 calls.
     */
    static void outside(GreenMachines machine, String call, Class<? extends RuntimeException> want,
            int least, int most, CallWith body) {
        int[] numbers = {least - 1, most + 1, least - 64, most + 64, least - 65536, most + 65536,
            Integer.MIN_VALUE, Integer.MAX_VALUE};
        for (int number : numbers) {
            thrown(machine, call + " with " + number, want, () -> body.answer(number));
        }
    }

    private static void tell(String text) {
        wrong++;
        System.out.println(sentence + text);
    }

    static void end() {
        System.out.println(asked + " answers, " + wrong + " not as due");
        if (wrong != 0) {
            System.exit(1);
        }
    }

    /** Appends a whole text to the buffer. */
    static void type(GreenMachines machine, String text) {
        for (int place = 0; place < text.length(); place++) {
            machine.append(text.charAt(place));
        }
    }

    /** A new machine, built from a text. */
    static GreenMachines built(String text) {
        GreenMachines machine = new GreenMachines();
        type(machine, text);
        machine.build();
        return machine;
    }

    /** A new machine, built from a text, without a saved state. */
    static GreenMachines builtUnsaved(String text) {
        GreenMachines machine = built(text);
        for (int call = 0; call < 6; call++) {
            machine.set(2);
        }
        for (int call = 0; call < 6; call++) {
            machine.undo();
        }
        return machine;
    }
}
