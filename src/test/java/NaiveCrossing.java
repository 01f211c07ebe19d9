import java.util.ArrayDeque;
import java.util.ArrayList;
import java.util.List;
import java.util.regex.Matcher;
import java.util.regex.Pattern;

/**
 * The document once more, in the plainest way: whole copies for undo, and proofs that walk every way.
 * It refuses a call by the same exceptions.
 */
final class NaiveCrossing {
    private static final Pattern ORDER = Pattern.compile("p(0?1?2?3?4?5?)\\*([1-9])"
            + "|r([0-7])>([0-7])(\\?(?!;|$)0?1?2?3?4?5?)?"
            + "|x(0)([1-5])|x(1)([2-5])|x(2)([3-5])|x(3)([45])|x(4)(5)");
    private static final int FOR_EVER = 99;

    private static final class Rule {
        int goal;
        int askers;
    }

    private static final class Phase {
        int greens;
        int hold;
        int came;
        List<Rule> rules = new ArrayList<>();
    }

    private static final class State {
        boolean[][] clash = new boolean[6][6];
        List<Phase> phases = new ArrayList<>();
        int clearing = 2;
        int from = -1;
        int at = 0;
        int stayed = 0;
        int left = 0;
        int ticks = 0;
        int[] wait = {-1, -1, -1, -1, -1, -1};
        int[] times = new int[6];
        int[] most = new int[6];

        State copy() {
            State copy = new State();
            for (int one = 0; one < 6; one++) {
                copy.clash[one] = clash[one].clone();
            }
            for (Phase phase : phases) {
                Phase same = new Phase();
                same.greens = phase.greens;
                same.hold = phase.hold;
                same.came = phase.came;
                for (Rule rule : phase.rules) {
                    Rule again = new Rule();
                    again.goal = rule.goal;
                    again.askers = rule.askers;
                    same.rules.add(again);
                }
                copy.phases.add(same);
            }
            copy.clearing = clearing;
            copy.from = from;
            copy.at = at;
            copy.stayed = stayed;
            copy.left = left;
            copy.ticks = ticks;
            copy.wait = wait.clone();
            copy.times = times.clone();
            copy.most = most.clone();
            return copy;
        }
    }

    private State now = new State();
    private final ArrayDeque<State> saved = new ArrayDeque<>();
    private String buffer = "";

    private void save() {
        saved.addLast(now.copy());
        if (saved.size() > 6) {
            saved.removeFirst();
        }
    }

    private static void argument(boolean fine) {
        if (!fine) {
            throw new IllegalArgumentException();
        }
    }

    private static void state(boolean fine) {
        if (!fine) {
            throw new IllegalStateException();
        }
    }

    private void index(int phase) {
        if (phase < 0 || phase >= now.phases.size()) {
            throw new IndexOutOfBoundsException();
        }
    }

    private static boolean within(int number, int least, int most) {
        return least <= number && number <= most;
    }

    private static boolean in(int mask, int bit) {
        return (mask & 1 << bit) != 0;
    }

    int clash(int one, int other) {
        argument(within(one, 0, 5) && within(other, 0, 5) && one != other);
        save();
        now.clash[one][other] = !now.clash[one][other];
        now.clash[other][one] = !now.clash[other][one];
        return now.clash[one][other] ? 1 : 0;
    }

    int addPhase(int greens, int hold) {
        argument(within(greens, 0, 63) && within(hold, 1, 9));
        state(now.phases.size() < 8);
        save();
        Phase phase = new Phase();
        phase.greens = greens;
        phase.hold = hold;
        now.phases.add(phase);
        return now.phases.size() - 1;
    }

    int addRule(int phase, int goal, int askers) {
        index(phase);
        index(goal);
        argument(phase != goal && within(askers, 0, 63));
        state(now.phases.get(phase).rules.size() < 4);
        save();
        Rule rule = new Rule();
        rule.goal = goal;
        rule.askers = askers;
        now.phases.get(phase).rules.add(rule);
        return now.phases.get(phase).rules.size();
    }

    int dropRule(int phase) {
        index(phase);
        state(!now.phases.get(phase).rules.isEmpty());
        save();
        List<Rule> rules = now.phases.get(phase).rules;
        return rules.remove(rules.size() - 1).goal;
    }

    int change(int phase, int greens, int hold) {
        index(phase);
        argument(within(greens, 0, 63) && within(hold, 1, 9));
        save();
        Phase changed = now.phases.get(phase);
        int before = changed.greens;
        changed.greens = greens;
        changed.hold = hold;
        return before;
    }

    int set(int ticks) {
        argument(within(ticks, 0, 5));
        save();
        int before = now.clearing;
        now.clearing = ticks;
        return before;
    }

    int come(int direction) {
        argument(within(direction, 0, 5));
        save();
        if (now.wait[direction] < 0) {
            now.wait[direction] = 0;
        }
        return now.wait[direction];
    }

    int run(int ticks) {
        argument(within(ticks, 1, 99));
        save();
        for (int tick = 0; tick < ticks; tick++) {
            tick();
        }
        return Integer.bitCount(count(5));
    }

    private void tick() {
        now.ticks++;
        int greens = count(4);
        for (int direction = 0; direction < 6; direction++) {
            if (now.wait[direction] >= 0 && in(greens, direction)) {
                now.times[direction]++;
                now.most[direction] = Math.max(now.most[direction], now.wait[direction]);
                now.wait[direction] = -1;
            } else if (now.wait[direction] >= 0) {
                now.wait[direction]++;
            }
        }
        if (now.phases.isEmpty()) {
            return;
        }
        if (now.left > 0) {
            now.left--;
            if (now.left == 0) {
                now.stayed = 0;
                now.phases.get(now.at).came++;
            }
            return;
        }
        now.stayed++;
        Phase phase = now.phases.get(now.at);
        if (now.stayed >= phase.hold) {
            for (int rule = 0; rule < phase.rules.size(); rule++) {
                if (rule(now.at, rule, 2) == 1) {
                    follow(phase.rules.get(rule).goal);
                    return;
                }
            }
        }
    }

    private void follow(int goal) {
        boolean same = now.phases.get(now.at).greens == now.phases.get(goal).greens;
        now.from = now.at;
        now.at = goal;
        now.left = same ? 0 : now.clearing;
        now.stayed = 0;
        if (now.left == 0) {
            now.phases.get(goal).came++;
        }
    }

    int start(int phase) {
        index(phase);
        save();
        now.at = phase;
        now.stayed = 0;
        now.left = 0;
        now.wait = new int[] {-1, -1, -1, -1, -1, -1};
        return now.phases.get(phase).greens;
    }

    int append(int code) {
        argument(within(code, 33, 126));
        state(buffer.length() < 60);
        buffer += (char) code;
        return buffer.length();
    }

    int clearBuffer() {
        int length = buffer.length();
        buffer = "";
        return length;
    }

    /** A start of a text is one if some ending makes it a text; those tried here suffice. */
    int firstError() {
        String[] endings = {"", "p*1", "*1", "1", "r0>1", "0>1", ">1", "x01", "01", "2", "3", "4", "5"};
        for (int length = 1; length <= buffer.length(); length++) {
            boolean fine = false;
            for (String ending : endings) {
                fine |= isText(buffer.substring(0, length) + ending);
            }
            if (!fine) {
                return length - 1;
            }
        }
        return buffer.length();
    }

    private static boolean isText(String text) {
        for (String order : text.split(";", -1)) {
            if (!ORDER.matcher(order).matches()) {
                return false;
            }
        }
        return true;
    }

    int build() {
        argument(isText(buffer));
        save();
        ArrayDeque<State> savedThen = new ArrayDeque<>(saved);
        int done = 0;
        try {
            for (String order : buffer.split(";")) {
                act(order);
                done++;
            }
        } catch (RuntimeException refused) {
            // the orders behind it are not done
        }
        saved.clear();
        saved.addAll(savedThen);
        buffer = "";
        return done;
    }

    private void act(String order) {
        Matcher matcher = ORDER.matcher(order);
        argument(matcher.matches());
        if (order.charAt(0) == 'p') {
            addPhase(mask(matcher.group(1)), order.charAt(order.length() - 1) - '0');
        } else if (order.charAt(0) == 'r') {
            addRule(order.charAt(1) - '0', order.charAt(3) - '0', order.length() > 4 ? mask(order.substring(5)) : 0);
        } else {
            int one = order.charAt(1) - '0';
            int other = order.charAt(2) - '0';
            now.clash[one][other] = true;
            now.clash[other][one] = true;
        }
    }

    private static int mask(String digits) {
        int mask = 0;
        for (int place = 0; place < digits.length(); place++) {
            mask |= 1 << digits.charAt(place) - '0';
        }
        return mask;
    }

    int undo() {
        state(!saved.isEmpty());
        now = saved.removeLast();
        return saved.size();
    }

    int phase(int phase, int what) {
        index(phase);
        argument(within(what, 0, 5));
        Phase asked = now.phases.get(phase);
        int[] answers = {asked.greens, asked.hold, asked.rules.size(), unsafe(asked) ? 1 : 0,
            in(coming(-1, -1), phase) ? 1 : 0, asked.came};
        return answers[what];
    }

    private boolean unsafe(Phase phase) {
        for (int one = 0; one < 6; one++) {
            for (int other = 0; other < one; other++) {
                if (now.clash[one][other] && in(phase.greens, one) && in(phase.greens, other)) {
                    return true;
                }
            }
        }
        return false;
    }

    int rule(int phase, int rule, int what) {
        index(phase);
        if (!within(rule, 0, now.phases.get(phase).rules.size() - 1)) {
            throw new IndexOutOfBoundsException();
        }
        argument(within(what, 0, 2));
        Rule asked = now.phases.get(phase).rules.get(rule);
        int[] answers = {asked.goal, asked.askers, holds(asked, count(5)) ? 1 : 0};
        return answers[what];
    }

    private static boolean holds(Rule rule, int waiting) {
        return rule.askers == 0 || (rule.askers & waiting) != 0;
    }

    int direction(int direction, int what) {
        argument(within(direction, 0, 5) && within(what, 0, 5));
        int clashing = 0;
        for (int other = 0; other < 6; other++) {
            clashing |= now.clash[direction][other] ? 1 << other : 0;
        }
        int phases = 0;
        for (int phase = 0; phase < now.phases.size(); phase++) {
            phases |= green(direction, phase) ? 1 << phase : 0;
        }
        int[] answers = {in(count(4), direction) ? 1 : 0, now.wait[direction], clashing, now.times[direction],
            now.most[direction], phases};
        return answers[what];
    }

    private boolean green(int direction, int phase) {
        return in(now.phases.get(phase).greens, direction);
    }

    int count(int what) {
        argument(within(what, 0, 11));
        boolean none = now.phases.isEmpty();
        switch (what) {
            case 0:
                return now.phases.size();
            case 1:
                return none ? -1 : now.at;
            case 2:
                return none || now.left > 0 ? -1 : now.stayed;
            case 3:
                return now.left;
            case 4:
                return none ? 0 : now.phases.get(now.at).greens & (now.left > 0 ? now.phases.get(now.from).greens : 63);
            case 5:
                return waiting();
            case 6:
                return Integer.bitCount(unsafePhases());
            case 7:
                return Integer.bitCount(coming(-1, -1));
            case 8:
                return Integer.bitCount(coming(-1, -1) & unsafePhases());
            case 9:
                return now.ticks;
            case 10:
                return starving();
            default:
                return saved.size();
        }
    }

    private int waiting() {
        int mask = 0;
        for (int direction = 0; direction < 6; direction++) {
            mask |= now.wait[direction] >= 0 ? 1 << direction : 0;
        }
        return mask;
    }

    private int unsafePhases() {
        int mask = 0;
        for (int phase = 0; phase < now.phases.size(); phase++) {
            mask |= unsafe(now.phases.get(phase)) ? 1 << phase : 0;
        }
        return mask;
    }

    private int starving() {
        int mask = 0;
        for (int direction = 0; direction < 6; direction++) {
            mask |= starvesAnywhere(direction, -1, -1) ? 1 << direction : 0;
        }
        return mask;
    }

    // ---- proofs: with a rule from -1 to -1 there is no further rule

    private int coming(int from, int goal) {
        if (now.phases.isEmpty()) {
            return 0;
        }
        return coming(now.at, 0, from, goal);
    }

    private int coming(int phase, int before, int from, int goal) {
        if (in(before, phase)) {
            return before;
        }
        int mask = before | 1 << phase;
        for (Rule rule : now.phases.get(phase).rules) {
            mask = coming(rule.goal, mask, from, goal);
        }
        return phase == from ? coming(goal, mask, from, goal) : mask;
    }

    /** What can happen at the end of the hold, with all sets of others that may wait; FOR_EVER: it stays. */
    private List<Integer> ways(int direction, int phase, int from, int goal) {
        List<Rule> rules = new ArrayList<>(now.phases.get(phase).rules);
        if (phase == from) {
            Rule first = new Rule();
            first.goal = goal;
            first.askers = 1 << direction;
            rules.add(0, first);
        }
        List<Integer> ways = new ArrayList<>();
        for (int others = 0; others < 64; others++) {
            int next = FOR_EVER;
            for (int rule = rules.size() - 1; rule >= 0; rule--) {
                if (holds(rules.get(rule), others | 1 << direction)) {
                    next = rules.get(rule).goal;
                }
            }
            // Who stays for ever stays in every tick: nobody else need ever come then.
            if (!ways.contains(next)) {
                ways.add(next);
            }
        }
        return ways;
    }

    private boolean starves(int direction, int phase, int before, int from, int goal) {
        if (phase == FOR_EVER || in(before, phase)) {
            return true;
        }
        if (green(direction, phase)) {
            return false;
        }
        for (int next : ways(direction, phase, from, goal)) {
            if (starves(direction, next, before | 1 << phase, from, goal)) {
                return true;
            }
        }
        return false;
    }

    private boolean starvesAnywhere(int direction, int from, int goal) {
        int coming = coming(from, goal);
        for (int phase = 0; phase < now.phases.size(); phase++) {
            if (in(coming, phase) && starves(direction, phase, 0, from, goal)) {
                return true;
            }
        }
        return false;
    }

    int starves(int direction, int phase) {
        index(phase);
        argument(within(direction, 0, 5));
        return starves(direction, phase, 0, -1, -1) ? 1 : 0;
    }

    int rounds(int direction) {
        argument(within(direction, 0, 5));
        int mask = 0;
        for (int phase = 0; phase < now.phases.size(); phase++) {
            if (in(coming(-1, -1), phase) && !green(direction, phase)) {
                List<Integer> ways = ways(direction, phase, -1, -1);
                boolean again = ways.contains(FOR_EVER);
                for (int next : ways) {
                    again |= reaches(direction, next, phase, 0);
                }
                mask |= again ? 1 << phase : 0;
            }
        }
        return mask;
    }

    private boolean reaches(int direction, int phase, int goal, int before) {
        if (phase == FOR_EVER || in(before, phase) || green(direction, phase)) {
            return false;
        }
        if (phase == goal) {
            return true;
        }
        for (int next : ways(direction, phase, -1, -1)) {
            if (reaches(direction, next, goal, before | 1 << phase)) {
                return true;
            }
        }
        return false;
    }

    int waitFor(int direction, int phase, boolean longest) {
        index(phase);
        argument(within(direction, 0, 5));
        if (longest && starves(direction, phase, 0, -1, -1)) {
            return -1;
        }
        return walk(direction, phase, 0, longest);
    }

    private int walk(int direction, int phase, int before, boolean longest) {
        if (phase == FOR_EVER || in(before, phase)) {
            return -1;
        }
        if (green(direction, phase)) {
            return 0;
        }
        int best = -1;
        for (int next : ways(direction, phase, -1, -1)) {
            int rest = walk(direction, next, before | 1 << phase, longest);
            if (rest >= 0) {
                boolean same = now.phases.get(phase).greens == now.phases.get(next).greens;
                int ticks = now.phases.get(phase).hold + (same ? 0 : now.clearing) + rest;
                best = best < 0 ? ticks : longest ? Math.max(best, ticks) : Math.min(best, ticks);
            }
        }
        return best;
    }

    int slowest() {
        int best = -1;
        int bestWait = -1;
        int coming = coming(-1, -1);
        for (int direction = 0; direction < 6; direction++) {
            if ((direction(direction, 5) & coming) == 0 || starvesAnywhere(direction, -1, -1)) {
                continue;
            }
            for (int phase = 0; phase < now.phases.size(); phase++) {
                if (in(coming, phase) && waitFor(direction, phase, true) > bestWait) {
                    bestWait = waitFor(direction, phase, true);
                    best = direction;
                }
            }
        }
        return best;
    }

    int remedy(int direction, int phase) {
        index(phase);
        argument(within(direction, 0, 5));
        if (!starvesAnywhere(direction, -1, -1)) {
            return -1;
        }
        for (int goal = 0; goal < now.phases.size(); goal++) {
            if (goal != phase && !starvesAnywhere(direction, phase, goal)) {
                return goal;
            }
        }
        return -1;
    }

    double safeShare() {
        int phases = now.phases.size();
        return phases == 0 ? 1.0 : (phases - count(6)) / (double) phases;
    }

    long digest() {
        List<Long> values = new ArrayList<>();
        for (int what = 0; what <= 11; what++) {
            values.add((long) count(what));
        }
        values.add((long) now.clearing);
        for (int direction = 0; direction < 6; direction++) {
            for (int what = 0; what <= 5; what++) {
                values.add((long) direction(direction, what));
            }
            values.add((long) rounds(direction));
        }
        for (int phase = 0; phase < now.phases.size(); phase++) {
            addPhaseValues(values, phase);
        }
        values.add((long) slowest());
        values.add(Double.doubleToLongBits(safeShare()));
        values.add((long) buffer.length());
        for (int place = 0; place < buffer.length(); place++) {
            values.add((long) buffer.charAt(place));
        }
        long hash = 2803;
        for (long value : values) {
            hash = 31 * hash + value;
        }
        return hash;
    }

    private void addPhaseValues(List<Long> values, int phase) {
        for (int what = 0; what <= 5; what++) {
            values.add((long) phase(phase, what));
        }
        for (int rule = 0; rule < phase(phase, 2); rule++) {
            for (int what = 0; what <= 2; what++) {
                values.add((long) rule(phase, rule, what));
            }
        }
        for (int direction = 0; direction < 6; direction++) {
            values.add((long) starves(direction, phase));
            values.add((long) waitFor(direction, phase, true));
            values.add((long) waitFor(direction, phase, false));
            values.add((long) remedy(direction, phase));
        }
    }
}
