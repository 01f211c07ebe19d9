import java.util.regex.Matcher;
import java.util.regex.Pattern;

/** Promises 11 to 14: the buffer and the machines as texts. */
final class TextTest {
    private static final Class<IllegalArgumentException> ARGUMENT = IllegalArgumentException.class;
    private static final Class<IllegalStateException> STATE = IllegalStateException.class;
    private static final String ORDER = "(?:p0?1?2?3?4?5?\\*[1-9]"
            + "|r[0-7]>[0-7](?:\\?(?:01?2?3?4?5?|12?3?4?5?|23?4?5?|34?5?|45?|5))?"
            + "|x(?:0[1-5]|1[2-5]|2[3-5]|3[45]|45))";
    private static final Pattern TEXT = Pattern.compile(ORDER + "(?:;" + ORDER + ")*");

    public static void main(String[] args) {
        append();
        clearBuffer();
        knownErrors();
        allShortTexts();
        changedTexts();
        build();
        buildStops();
        buildOfIncompleteTexts();
        Due.end();
    }

    private static void append() {
        GreenMachines machine = new GreenMachines();
        Due.thrown(machine, "append(32)", ARGUMENT, () -> machine.append(32));
        Due.thrown(machine, "append(127)", ARGUMENT, () -> machine.append(127));
        Due.thrown(machine, "append(-1)", ARGUMENT, () -> machine.append(-1));
        Due.thrown(machine, "append(65536 + 'p')", ARGUMENT, () -> machine.append(65536 + 'p'));
        Due.same("append(33)", machine.append(33), 1);
        Due.same("append(126)", machine.append(126), 2);
        for (int length = 3; length <= 60; length++) {
            Due.same("append() number " + length, machine.append('x'), length);
        }
        Due.thrown(machine, "append('x') as 61st", STATE, () -> machine.append('x'));
        Due.thrown(machine, "append(32) as 61st", ARGUMENT, () -> machine.append(32));
        Due.same("append() saves nothing", machine.count(11), 0);
        Due.same("clearBuffer() of 60", machine.clearBuffer(), 60);
    }

    private static void clearBuffer() {
        GreenMachines machine = new GreenMachines();
        Due.type(machine, "p1q");
        Due.same("clearBuffer()", machine.clearBuffer(), 3);
        Due.same("clearBuffer() again", machine.clearBuffer(), 0);
        Due.same("firstError() of nothing", machine.firstError(), 0);
        Due.type(machine, "p*1");
        Due.same("firstError() after clearBuffer()", machine.firstError(), 3);
        Due.same("clearBuffer() saves nothing", machine.count(11), 0);
    }

    private static void knownErrors() {
        String[] texts = {"p", "p0", "p05*3", "p50", "p00", "p6", "p*0", "p**", "p1*10", "p1*1;", "p1*1;;",
            "r8", "r0>8", "r0>0", "r0>1?", "r0>1?;", "r0>1?0123456", "r0>1?54", "r0?1", "r0>1;x01", "x5", "x00",
            "x45", "x10", "x456", ";", "P", "xx", "p*1r0>1", "x01?2", "p*1?2"};
        int[] errors = {1, 2, 5, 2, 2, 1, 2, 2, 4, 5, 5,
            1, 3, 4, 5, 5, 11, 6, 2, 8, 1, 2,
            3, 2, 3, 0, 0, 1, 3, 3, 3};
        for (int text = 0; text < texts.length; text++) {
            checkError(texts[text], errors[text]);
            Due.same("the pattern's error in " + texts[text], errorByPattern(texts[text]), errors[text]);
        }
    }

    /** Every text of up to five of the signs that matter. */
    private static void allShortTexts() {
        String signs = "prx0157*>?;";
        int texts = 1;
        for (int length = 0; length <= 5; length++) {
            for (int number = 0; number < texts; number++) {
                StringBuilder text = new StringBuilder();
                int rest = number;
                for (int place = 0; place < length; place++) {
                    text.append(signs.charAt(rest % signs.length()));
                    rest /= signs.length();
                }
                checkError(text.toString(), errorByPattern(text.toString()));
            }
            texts *= signs.length();
        }
    }

    /** A long text with each sign put at each place. */
    private static void changedTexts() {
        String[] texts = {"p*1;p012345*9;r0>1;r1>0?135;x03;r7>7?0;x45", "r1>2?4;p24*7;p5*2;x12;r3>4;x23;r5>6?012345"};
        for (String text : texts) {
            for (int place = 0; place < text.length(); place++) {
                for (char sign = 33; sign <= 126; sign++) {
                    String changed = text.substring(0, place) + sign + text.substring(place + 1);
                    checkError(changed, errorByPattern(changed));
                }
            }
        }
    }

    private static void checkError(String text, int error) {
        GreenMachines machine = new GreenMachines();
        Due.type(machine, text);
        Due.same("firstError() of " + text, machine.firstError(), error);
    }

    /** The matcher hits the end just if a longer text could begin with this one. */
    private static int errorByPattern(String text) {
        for (int length = 1; length <= text.length(); length++) {
            Matcher matcher = TEXT.matcher(text.substring(0, length));
            if (!matcher.matches() && !matcher.hitEnd()) {
                return length - 1;
            }
        }
        return text.length();
    }

    private static void build() {
        GreenMachines machine = new GreenMachines();
        Due.type(machine, "p05*9;p*1;p012345*4;r0>1;r0>2?05;x03;x03;r2>0?4");
        Due.same("build()", machine.build(), 8);
        Due.same("the buffer is clear", machine.clearBuffer(), 0);
        Due.same("saved after build()", machine.count(11), 1);
        int[][] phases = {{33, 9, 2}, {0, 1, 0}, {63, 4, 1}};
        for (int phase = 0; phase < 3; phase++) {
            for (int what = 0; what < 3; what++) {
                Due.same("built: phase(" + phase + ", " + what + ")", machine.phase(phase, what), phases[phase][what]);
            }
        }
        Due.same("built: rule(0, 0, 0)", machine.rule(0, 0, 0), 1);
        Due.same("built: rule(0, 0, 1)", machine.rule(0, 0, 1), 0);
        Due.same("built: rule(0, 1, 0)", machine.rule(0, 1, 0), 2);
        Due.same("built: rule(0, 1, 1)", machine.rule(0, 1, 1), 33);
        Due.same("built: rule(2, 0, 1)", machine.rule(2, 0, 1), 16);
        Due.same("built: 0 clashes with", machine.direction(0, 2), 8);
        Due.same("built: 3 clashes with", machine.direction(3, 2), 1);
        Due.type(machine, "p1*2");
        Due.same("build() of one more", machine.build(), 1);
        Due.same("built: phase(3, 0)", machine.phase(3, 0), 2);
        machine.undo();
        Due.same("undo() of build(), as one call", machine.undo(), 0);
        Due.same("phases then", machine.count(0), 0);
        Due.same("0 clashes then with", machine.direction(0, 2), 0);
        Due.same("the buffer is not restored", machine.clearBuffer(), 0);
    }

    private static void buildStops() {
        GreenMachines machine = new GreenMachines();
        Due.type(machine, "r0>1;p1*1");
        Due.same("build() that does none", machine.build(), 0);
        Due.same("is saved", machine.count(11), 1);
        Due.same("and clears the buffer", machine.clearBuffer(), 0);
        Due.same("without phases", machine.count(0), 0);
        Due.type(machine, "p1*1;r0>0;x12");
        Due.same("build() up to a rule to its own phase", machine.build(), 1);
        Due.same("nothing behind it is done", machine.direction(1, 2), 0);
        Due.type(machine, "x12;p2*2;r0>2;p3*3");
        Due.same("build() up to a goal that is not there", machine.build(), 2);
        Due.type(machine, "r0>1;r0>1;r0>1;r0>1;r0>1;p3*3");
        Due.same("build() up to a fifth rule", machine.build(), 4);
        Due.type(machine, "r2>0;p3*3");
        Due.same("build() up to a phase that is not there", machine.build(), 0);
        Due.type(machine, "p3*3;p3*3;p3*3;p3*3;p3*3;p3*3;p3*3;x45");
        Due.same("build() up to a ninth phase", machine.build(), 6);
        Due.same("phases", machine.count(0), 8);
        Due.same("4 does not clash", machine.direction(4, 2), 0);
        Due.type(machine, "x45;x45");
        Due.same("x does not undo a clash", machine.build(), 2);
        Due.same("4 clashes with", machine.direction(4, 2), 32);
    }

    private static void buildOfIncompleteTexts() {
        String[] texts = {"", "p", "p1", "p1*", "p1*1;", "r", "r0", "r0>", "r0>1?", "x", "x0", "p1*1;p6*1", "q"};
        for (String text : texts) {
            GreenMachines machine = new GreenMachines();
            Due.type(machine, text);
            Due.thrown(machine, "build() of " + text, ARGUMENT, machine::build);
            Due.same("its buffer stays", machine.clearBuffer(), text.length());
        }
        String[] complete = {"p*1", "p5*9", "r0>1", "r0>1?5", "r0>1?05", "x01"};
        for (String text : complete) {
            GreenMachines machine = new GreenMachines();
            Due.type(machine, text);
            Due.same("build() of " + text, machine.build(), text.startsWith("r") ? 0 : 1);
        }
    }
}
