/** 'Input text' and promises 11 to 14: a test for each edge that they name. */
final class EdgesOfTextsTest {
    private static final Class<IllegalArgumentException> ARGUMENT = IllegalArgumentException.class;
    private static final Class<IllegalStateException> STATE = IllegalStateException.class;
    private static final Class<IndexOutOfBoundsException> INDEX = IndexOutOfBoundsException.class;
    private static final String DIGITS = "0123456789";

    public static void main(String[] args) {
        orders();
        phaseOrder();
        ruleOrder();
        askersOfRuleOrder();
        clashOrder();
        firstErrorCounts();
        textsOfAnyLength();
        appendRange();
        appendWhenFull();
        clearBuffer();
        firstErrorOfNothing();
        firstErrorWithoutOne();
        buildOfNoText();
        buildOfWholeTexts();
        buildOfFullBuffer();
        buildStopsAtTheFirst();
        buildOfClashes();
        buildClearsTheBuffer();
        Due.end();
    }

    /** Behind the start just these signs go on, of all that can be in the buffer. */
    private static void goesOn(String start, String signs) {
        for (char sign = 33; sign <= 126; sign++) {
            GreenMachines machine = new GreenMachines();
            Due.type(machine, start + sign);
            int error = signs.indexOf(sign) >= 0 ? start.length() + 1 : start.length();
            Due.same("firstError() of " + start + sign, machine.firstError(), error);
        }
    }

    private static void orders() {
        Due.says("A machine as a text is one or more orders with \";\" between them");
        goesOn("", "prx");
        goesOn("p*1;", "prx");
        goesOn("r0>1;", "prx");
        goesOn("r0>1?2;", "prx");
        goesOn("x01;", "prx");
        complete("p*1", true);
        complete("p*1;", false);
        complete("p*1;;p*1", false);
        complete(";p*1", false);
        complete("p*1;r0>1;x01;p0*2", true);
    }

    private static void phaseOrder() {
        Due.says("\"p\", any number of digits of directions, 0 to 5, each greater than the one ahead of it, "
                + "\"*\", and a hold, 1 to 9 (a phase)");
        goesOn("p", "012345*");
        goesOn("p0", "12345*");
        goesOn("p1", "2345*");
        goesOn("p2", "345*");
        goesOn("p3", "45*");
        goesOn("p4", "5*");
        goesOn("p5", "*");
        goesOn("p04", "5*");
        goesOn("p012345", "*");
        goesOn("p*", "123456789");
        goesOn("p05*", "123456789");
        goesOn("p*1", ";");
        goesOn("p5*9", ";");
        complete("p", false);
        complete("p5", false);
        complete("p5*", false);
        complete("p*1", true);
        complete("p012345*9", true);
    }

    private static void ruleOrder() {
        Due.says("\"r\", the digit of a phase, 0 to 7, \">\", that of a phase (a rule)");
        goesOn("r", "01234567");
        goesOn("r0", ">");
        goesOn("r7", ">");
        goesOn("r0>", "01234567");
        goesOn("r7>", "01234567");
        goesOn("r0>0", "?;");
        goesOn("r0>7", "?;");
        complete("r", false);
        complete("r7", false);
        complete("r7>", false);
        complete("r7>0", true);
    }

    private static void askersOfRuleOrder() {
        Due.says("and perhaps \"?\" and one or more digits of directions, each greater than the one ahead");
        goesOn("r0>1?", "012345");
        goesOn("r0>1?0", "12345;");
        goesOn("r0>1?1", "2345;");
        goesOn("r0>1?2", "345;");
        goesOn("r0>1?3", "45;");
        goesOn("r0>1?4", "5;");
        goesOn("r0>1?5", ";");
        goesOn("r0>1?012345", ";");
        goesOn("r0>1;r0>1?", "012345");
        goesOn("r0>1?5;r0>1?", "012345");
        complete("r0>1?", false);
        complete("r0>1?0", true);
        complete("r0>1?5", true);
        complete("r0>1?012345", true);
    }

    private static void clashOrder() {
        Due.says("or \"x\" and two digits of directions, the latter one greater (they clash)");
        goesOn("x", "01234");
        goesOn("x0", "12345");
        goesOn("x1", "2345");
        goesOn("x2", "345");
        goesOn("x3", "45");
        goesOn("x4", "5");
        goesOn("x01", ";");
        goesOn("x45", ";");
        complete("x", false);
        complete("x4", false);
        complete("x45", true);
        complete("x01", true);
    }

    private static void complete(String text, boolean whole) {
        GreenMachines machine = new GreenMachines();
        Due.type(machine, text);
        if (whole) {
            machine.build();
            Due.same("saved states, as " + text + " is a machine as a text", machine.count(11), 1);
        } else {
            Due.thrown(machine, "build() of " + text, ARGUMENT, machine::build);
        }
    }

    private static void firstErrorCounts() {
        Due.says("The buffer is read from left to right; firstError: the index of the first character "
                + "that is a syntax error");
        String text = "p05*9;r7>0?15;x45;p*1";
        for (int place = 0; place < text.length(); place++) {
            GreenMachines machine = new GreenMachines();
            Due.type(machine, text.substring(0, place) + "!" + text.substring(place));
            Due.same("firstError() with ! at " + place, machine.firstError(), place);
            machine.append('?');
            Due.same("firstError() with another one behind it", machine.firstError(), place);
        }
        GreenMachines full = new GreenMachines();
        Due.type(full, "x01;x01;x01;x01;x01;x01;x01;x01;x01;x01;x01;x01;x01;x01;x010");
        Due.same("firstError() at the last place", full.firstError(), 59);
        Due.same("firstError() again", full.firstError(), 59);
    }

    private static void textsOfAnyLength() {
        Due.says("if no machine as a text, of any length, begins with the characters before it and this character");
        String orders = "p*1;p*1;p*1;p*1;p*1;p*1;p*1;p*1;p*1;p*1;p*1;p*1;p*1;p*1;";
        String[] ends = {"p*1;", "x01;", "r7>0", "p012", "p01*", "x012", "p*1p", "p55*", "x45r", "r8>1"};
        int[] errors = {60, 60, 60, 60, 60, 59, 59, 58, 59, 57};
        for (int text = 0; text < ends.length; text++) {
            GreenMachines machine = new GreenMachines();
            Due.type(machine, orders + ends[text]);
            Due.same("firstError() of 60 with the end " + ends[text], machine.firstError(), errors[text]);
        }
        GreenMachines open = new GreenMachines();
        Due.type(open, orders + "r0>1");
        Due.same("build() of 60, behind which more could come", open.build(), 8);
        Due.type(open, orders + "p012");
        Due.thrown(open, "build() of 60 that need more", ARGUMENT, open::build);
    }

    private static void appendRange() {
        Due.says("Promise 11: IllegalArgumentException if code is not 33 to 126");
        GreenMachines machine = new GreenMachines();
        Due.outside(machine, "append()", ARGUMENT, 33, 126, machine::append);
        Due.says("Promise 11: Returns the new length of the buffer");
        Due.same("append(33)", machine.append(33), 1);
        Due.same("append(126)", machine.append(126), 2);
        Due.same("firstError()", machine.firstError(), 0);
        Due.same("clearBuffer()", machine.clearBuffer(), 2);
        for (int code = 33; code <= 126; code++) {
            GreenMachines one = new GreenMachines();
            long before = one.digest();
            Due.same("append(" + code + ")", one.append(code), 1);
            // an empty buffer ends the hash with its length 0, this one with 1 and the code
            Due.same("digest() with " + code, one.digest(), 31 * (before + 1) + code);
        }
    }

    private static void appendWhenFull() {
        Due.says("Promise 11: IllegalStateException if the buffer has 60 characters");
        GreenMachines machine = new GreenMachines();
        for (int length = 1; length <= 60; length++) {
            Due.same("append()", machine.append('~'), length);
        }
        Due.thrown(machine, "append() as 61st", STATE, () -> machine.append('~'));
        Due.thrown(machine, "append() as 61st, of the least code", STATE, () -> machine.append(33));
        Due.same("clearBuffer()", machine.clearBuffer(), 60);
        Due.same("append() behind it", machine.append('~'), 1);
    }

    private static void clearBuffer() {
        Due.says("Promise 12: Clears the buffer. Returns the length that it had");
        GreenMachines machine = new GreenMachines();
        Due.same("clearBuffer() of nothing", machine.clearBuffer(), 0);
        machine.append('p');
        Due.same("clearBuffer() of one", machine.clearBuffer(), 1);
        Due.same("clearBuffer() again", machine.clearBuffer(), 0);
        long before = machine.digest();
        for (int length = 1; length <= 60; length++) {
            machine.append('x');
        }
        Due.same("clearBuffer() of 60", machine.clearBuffer(), 60);
        Due.same("digest() with nothing in it", machine.digest(), before);
        Due.type(machine, "x0");
        Due.same("firstError() behind it", machine.firstError(), 2);
    }

    private static void firstErrorOfNothing() {
        Due.says("Promise 13: the length of the buffer if there is none: of an empty one");
        GreenMachines machine = new GreenMachines();
        Due.same("firstError()", machine.firstError(), 0);
        machine.append('p');
        machine.clearBuffer();
        Due.same("firstError() behind clearBuffer()", machine.firstError(), 0);
    }

    private static void firstErrorWithoutOne() {
        Due.says("Promise 13: the length of the buffer if there is none");
        String text = "p*1;p012345*9;r0>1;r0>7?05;x01;x45;r7>0?5;p3*5;r1>1;p02*7;x1";
        GreenMachines machine = new GreenMachines();
        for (int length = 1; length <= 60; length++) {
            machine.append(text.charAt(length - 1));
            Due.same("firstError() of " + length, machine.firstError(), length);
        }
        Due.same("firstError() changes nothing", machine.clearBuffer(), 60);
    }

    private static void buildOfNoText() {
        Due.says("Promise 14: IllegalArgumentException if the buffer is not a complete machine as a text");
        String[] texts = {"", "p*1;", "p*1;p", "p*1!", "!", "p*1;p*0", "x01;x1", "p*1;r0>1?"};
        for (String text : texts) {
            GreenMachines machine = new GreenMachines();
            Due.type(machine, text);
            Due.thrown(machine, "build() of " + text, ARGUMENT, machine::build);
            Due.same("count(0), though the first orders are fine", machine.count(0), 0);
            Due.same("count(11)", machine.count(11), 0);
            Due.same("clearBuffer() behind " + text, machine.clearBuffer(), text.length());
        }
    }

    private static void buildOfWholeTexts() {
        Due.says("Promise 14: Does the orders in the buffer as addPhase() and addRule() do: all edges of an order");
        GreenMachines machine = new GreenMachines();
        Due.type(machine, "p*1;p012345*9;p05*5;r0>1;r0>2?0;r0>2?5;r0>1?012345");
        Due.same("build()", machine.build(), 7);
        int[][] phases = {{0, 1, 4}, {63, 9, 0}, {33, 5, 0}};
        for (int phase = 0; phase < 3; phase++) {
            for (int what = 0; what < 3; what++) {
                Due.same("phase(" + phase + ", " + what + ")", machine.phase(phase, what), phases[phase][what]);
            }
        }
        int[][] rules = {{1, 0}, {2, 1}, {2, 32}, {1, 63}};
        for (int rule = 0; rule < 4; rule++) {
            Due.same("rule(0, " + rule + ", 0)", machine.rule(0, rule, 0), rules[rule][0]);
            Due.same("rule(0, " + rule + ", 1)", machine.rule(0, rule, 1), rules[rule][1]);
        }
        Due.type(machine, "p*1;p*1;p*1;p*1;p*1;r7>0?5;r0>7");
        Due.same("build() of 5 phases more and the last one's rule", machine.build(), 6);
        Due.same("rule(7, 0, 0)", machine.rule(7, 0, 0), 0);
        Due.same("rule(7, 0, 1)", machine.rule(7, 0, 1), 32);
    }

    private static void buildOfFullBuffer() {
        Due.says("The buffer has at most 60 characters: a text as long as that");
        GreenMachines machine = new GreenMachines();
        Due.type(machine, "p*1;p*1;p*1;p*1;p*1;p*1;p*1;p*1;x01;x01;x01;x01;x01;x01;r7>0");
        Due.same("build()", machine.build(), 15);
        Due.same("phases", machine.count(0), 8);
        Due.same("rules of the last one", machine.phase(7, 2), 1);
        Due.same("clearBuffer()", machine.clearBuffer(), 0);
    }

    private static void buildStopsAtTheFirst() {
        Due.says("Promise 14: up to the first one whose method would throw an exception. Returns how many are done");
        String[] texts = {"r0>1;p1*1;p2*1", "p1*1;r0>0;p2*1", "p1*1;r0>1;p2*1", "p1*1;r1>0;p2*1",
            "p1*1;p1*1;r0>1;r0>1;r0>1;r0>1;r0>1;p2*1", "p*1;p*1;p*1;p*1;p*1;p*1;p*1;p*1;p*1;r0>1;x01",
            "p*1;p*1;r1>0;r0>7;x01", "p*1;p*1;r7>0;x01", "p*1;p*1;r1>1;x01"};
        int[] done = {0, 1, 1, 1, 6, 8, 3, 2, 2};
        int[] phases = {0, 1, 1, 1, 2, 8, 2, 2, 2};
        for (int text = 0; text < texts.length; text++) {
            GreenMachines machine = new GreenMachines();
            Due.type(machine, texts[text]);
            Due.same("build() of " + texts[text], machine.build(), done[text]);
            Due.same("phases then", machine.count(0), phases[text]);
            Due.same("clashes then", machine.direction(0, 2), 0);
            Due.same("clearBuffer() then", machine.clearBuffer(), 0);
            Due.same("count(11) then", machine.count(11), 1);
        }
        GreenMachines full = Due.built("p*1;p*1;p*1;p*1;p*1;p*1;p*1;p*1");
        Due.type(full, "x01;p*1;x23");
        Due.same("build() of a ninth phase", full.build(), 1);
        Due.same("0 clashes with", full.direction(0, 2), 2);
        Due.same("2 clashes with", full.direction(2, 2), 0);
    }

    private static void buildOfClashes() {
        Due.says("Promise 14: \"x\" lets two directions clash (also if they do already)");
        for (int one = 0; one < 5; one++) {
            for (int other = one + 1; other < 6; other++) {
                String order = "x" + DIGITS.charAt(one) + DIGITS.charAt(other);
                GreenMachines machine = Due.built(order + ";" + order);
                Due.same(one + " clashes with", machine.direction(one, 2), 1 << other);
                Due.same(other + " clashes with", machine.direction(other, 2), 1 << one);
                Due.type(machine, order);
                Due.same("build() again", machine.build(), 1);
                Due.same(one + " clashes then with", machine.direction(one, 2), 1 << other);
            }
        }
    }

    private static void buildClearsTheBuffer() {
        Due.says("Promise 14: and clears the buffer");
        GreenMachines machine = new GreenMachines();
        Due.type(machine, "p*1");
        machine.build();
        Due.same("append() behind build()", machine.append('p'), 1);
        Due.same("clearBuffer()", machine.clearBuffer(), 1);
        Due.thrown(machine, "build() again", ARGUMENT, machine::build);
        Due.type(machine, "r1>0");
        Due.same("build() that does none", machine.build(), 0);
        Due.same("append() behind it", machine.append('p'), 1);
        Due.thrown(machine, "phase(1, 0)", INDEX, () -> machine.phase(1, 0));
    }
}
