/**
 * Lights of a crossing as a machine: phases with greens, rules between them, waits that are counted,
 * and proofs of which greens clash, who can starve, and how long the waits can be.
 */
public final class GreenMachines {
    public static final int NONE = -1;

    private static final int DIRECTIONS = 6;
    private static final int ALL_DIRECTIONS = 63;
    private static final int MOST_PHASES = 8;
    private static final int MOST_RULES = 4;
    private static final int MOST_HOLD = 9;
    private static final int MOST_CLEARING = 5;
    private static final int MOST_TICKS = 99;
    private static final int MOST_CODES = 60;
    private static final int MOST_SAVED = 6;

    private final Machine machine = new Machine();
    private final History history = new History();
    private final Text text = new Text();
    private final Proofs proofs = new Proofs();

    public GreenMachines() {
    }

    // ---- the machine

    public int clash(int one, int other) throws IllegalArgumentException {
        checkDirection(one);
        checkDirection(other);
        if (one == other) {
            throw new IllegalArgumentException("a direction does not clash with itself");
        }
        history.keep(machine);
        boolean clashing = !has(machine.plan.clashes.at(one), other);
        machine.plan.putClash(one, other, clashing);
        return clashing ? 1 : 0;
    }

    public int addPhase(int greens, int hold) throws IllegalArgumentException, IllegalStateException {
        checkMask(greens);
        checkHold(hold);
        if (machine.plan.isFull()) {
            throw new IllegalStateException("there are 8 phases");
        }
        history.keep(machine);
        return machine.plan.appendPhase(greens, hold);
    }

    public int addRule(int phase, int goal, int askers)
            throws IndexOutOfBoundsException, IllegalArgumentException, IllegalStateException {
        checkPhase(phase);
        checkPhase(goal);
        if (phase == goal) {
            throw new IllegalArgumentException("the goal is another phase");
        }
        checkMask(askers);
        if (machine.plan.isFullOfRules(phase)) {
            throw new IllegalStateException("the phase has 4 rules");
        }
        history.keep(machine);
        return machine.plan.appendRule(phase, goal, askers);
    }

    public int dropRule(int phase) throws IndexOutOfBoundsException, IllegalStateException {
        checkPhase(phase);
        if (machine.plan.ruleCounts.at(phase) == 0) {
            throw new IllegalStateException("the phase has no rule");
        }
        history.keep(machine);
        return machine.plan.removeRule(phase);
    }

    public int change(int phase, int greens, int hold)
            throws IndexOutOfBoundsException, IllegalArgumentException {
        checkPhase(phase);
        checkMask(greens);
        checkHold(hold);
        history.keep(machine);
        int before = machine.plan.greens.at(phase);
        machine.plan.greens.put(phase, greens);
        machine.plan.holds.put(phase, hold);
        return before;
    }

    public int set(int ticks) throws IllegalArgumentException {
        if (ticks < 0 || ticks > MOST_CLEARING) {
            throw new IllegalArgumentException("the ticks of clearing are 0 to 5");
        }
        history.keep(machine);
        int before = machine.plan.clearing;
        machine.plan.clearing = ticks;
        return before;
    }

    // ---- running

    public int come(int direction) throws IllegalArgumentException {
        checkDirection(direction);
        history.keep(machine);
        if (machine.waits.at(direction) == NONE) {
            machine.waits.put(direction, 0);
        }
        return machine.waits.at(direction);
    }

    public int run(int ticks) throws IllegalArgumentException {
        if (ticks < 1 || ticks > MOST_TICKS) {
            throw new IllegalArgumentException("the ticks are 1 to 99");
        }
        history.keep(machine);
        for (int tick = 0; tick < ticks; tick++) {
            machine.passTick();
        }
        return Integer.bitCount(machine.waiting());
    }

    public int start(int phase) throws IndexOutOfBoundsException {
        checkPhase(phase);
        history.keep(machine);
        machine.putInto(phase);
        return machine.plan.greens.at(phase);
    }

    // ---- texts

    public int append(int code) throws IllegalArgumentException, IllegalStateException {
        if (code < 33 || code > 126) {
            throw new IllegalArgumentException("a code is 33 to 126");
        }
        if (text.length >= MOST_CODES) {
            throw new IllegalStateException("the buffer has 60 characters");
        }
        text.add(code);
        return text.length;
    }

    public int clearBuffer() {
        return text.empty();
    }

    public int firstError() {
        return text.errorPlace();
    }

    public int build() throws IllegalArgumentException {
        if (!text.isComplete()) {
            throw new IllegalArgumentException("the buffer is not a complete machine as a text");
        }
        history.keep(machine);
        int done = text.doOrders(machine.plan);
        text.empty();
        return done;
    }

    public int undo() throws IllegalStateException {
        if (history.kept == 0) {
            throw new IllegalStateException("there is no saved state");
        }
        history.restore(machine);
        return history.kept;
    }

    // ---- looks; nothing is changed

    public int phase(int phase, int what) throws IndexOutOfBoundsException, IllegalArgumentException {
        checkPhase(phase);
        switch (what) {
            case 0:
                return machine.plan.greens.at(phase);
            case 1:
                return machine.plan.holds.at(phase);
            case 2:
                return machine.plan.ruleCounts.at(phase);
            case 3:
                return machine.plan.isUnsafe(phase) ? 1 : 0;
            case 4:
                return has(comingPhases(), phase) ? 1 : 0;
            case 5:
                return machine.arrivals.at(phase);
            default:
                throw new IllegalArgumentException("a property of a phase is 0 to 5");
        }
    }

    public int rule(int phase, int rule, int what)
            throws IndexOutOfBoundsException, IllegalArgumentException {
        checkPhase(phase);
        if (rule < 0 || rule >= machine.plan.ruleCounts.at(phase)) {
            throw new IndexOutOfBoundsException("there is no such rule");
        }
        switch (what) {
            case 0:
                return machine.plan.goalOf(phase, rule);
            case 1:
                return machine.plan.askersOf(phase, rule);
            case 2:
                return machine.ruleHolds(phase, rule, machine.waiting()) ? 1 : 0;
            default:
                throw new IllegalArgumentException("a property of a rule is 0 to 2");
        }
    }

    public int direction(int direction, int what) throws IllegalArgumentException {
        checkDirection(direction);
        switch (what) {
            case 0:
                return has(machine.greensNow(), direction) ? 1 : 0;
            case 1:
                return machine.waits.at(direction);
            case 2:
                return machine.plan.clashes.at(direction);
            case 3:
                return machine.served.at(direction);
            case 4:
                return machine.longestServed.at(direction);
            case 5:
                return machine.plan.phasesWith(direction);
            default:
                throw new IllegalArgumentException("a property of a direction is 0 to 5");
        }
    }

    public int count(int what) throws IllegalArgumentException {
        switch (what) {
            case 0:
                return machine.plan.phases;
            case 1:
                return machine.plan.phases == 0 ? NONE : machine.present;
            case 2:
                return machine.plan.phases == 0 || machine.isClearing() ? NONE : machine.stayed;
            case 3:
                return machine.left;
            case 4:
                return machine.greensNow();
            case 5:
                return machine.waiting();
            case 6:
                return Integer.bitCount(machine.plan.unsafePhases());
            case 7:
                return Integer.bitCount(comingPhases());
            case 8:
                return Integer.bitCount(comingPhases() & machine.plan.unsafePhases());
            case 9:
                return machine.ticks;
            case 10:
                studyAll();
                return proofs.starvingDirections();
            case 11:
                return history.kept;
            default:
                throw new IllegalArgumentException("a number is told for 0 to 11");
        }
    }

    // ---- proofs; nothing is changed

    public int starves(int direction, int phase)
            throws IndexOutOfBoundsException, IllegalArgumentException {
        checkPhase(phase);
        checkDirection(direction);
        study(direction);
        return proofs.starvesFrom(direction, phase) ? 1 : 0;
    }

    public int rounds(int direction) throws IllegalArgumentException {
        checkDirection(direction);
        study(direction);
        return proofs.roundPhases(machine.plan, direction);
    }

    public int waitFor(int direction, int phase, boolean longest)
            throws IndexOutOfBoundsException, IllegalArgumentException {
        checkPhase(phase);
        checkDirection(direction);
        study(direction);
        return longest ? proofs.longestFrom(direction, phase) : proofs.shortestFrom(direction, phase);
    }

    public int slowest() {
        studyAll();
        int best = NONE;
        int bestWait = NONE;
        for (int direction = 0; direction < DIRECTIONS; direction++) {
            int wait = proofs.worstWait(machine.plan, direction);
            if (wait > bestWait) {
                bestWait = wait;
                best = direction;
            }
        }
        return best;
    }

    public int remedy(int direction, int phase)
            throws IndexOutOfBoundsException, IllegalArgumentException {
        checkPhase(phase);
        checkDirection(direction);
        study(direction);
        return proofs.remedyAt(machine.plan, machine.present, direction, phase);
    }

    public double safeShare() {
        int phases = machine.plan.phases;
        if (phases == 0) {
            return 1.0;
        }
        int safe = phases - Integer.bitCount(machine.plan.unsafePhases());
        return (double) safe / (double) phases;
    }

    public long digest() {
        studyAll();
        long hash = 2803L;
        for (int what = 0; what <= 11; what++) {
            hash = mix(hash, count(what));
        }
        hash = mix(hash, machine.plan.clearing);
        for (int direction = 0; direction < DIRECTIONS; direction++) {
            hash = mixDirection(hash, direction);
        }
        for (int phase = 0; phase < machine.plan.phases; phase++) {
            hash = mixPhase(hash, phase);
            hash = mixProofs(hash, phase);
        }
        hash = mix(hash, slowest());
        hash = mix(hash, bitsOfShare(safeShare()));
        return text.mixInto(hash);
    }

    private long mixDirection(long before, int direction) {
        long hash = before;
        for (int what = 0; what <= 5; what++) {
            hash = mix(hash, direction(direction, what));
        }
        return mix(hash, proofs.roundPhases(machine.plan, direction));
    }

    private long mixPhase(long before, int phase) {
        long hash = before;
        for (int what = 0; what <= 5; what++) {
            hash = mix(hash, phase(phase, what));
        }
        int rules = machine.plan.ruleCounts.at(phase);
        for (int rule = 0; rule < rules; rule++) {
            for (int what = 0; what <= 2; what++) {
                hash = mix(hash, rule(phase, rule, what));
            }
        }
        return hash;
    }

    private long mixProofs(long before, int phase) {
        long hash = before;
        for (int direction = 0; direction < DIRECTIONS; direction++) {
            hash = mix(hash, proofs.starvesFrom(direction, phase) ? 1 : 0);
            hash = mix(hash, proofs.longestFrom(direction, phase));
            hash = mix(hash, proofs.shortestFrom(direction, phase));
            hash = mix(hash, proofs.remedyAt(machine.plan, machine.present, direction, phase));
        }
        return hash;
    }

    private int comingPhases() {
        proofs.noteComing(machine.plan, machine.present);
        return proofs.coming;
    }

    private void study(int direction) {
        proofs.noteComing(machine.plan, machine.present);
        proofs.noteStarving(machine.plan, direction);
        proofs.noteWaits(machine.plan, direction);
    }

    private void studyAll() {
        proofs.noteComing(machine.plan, machine.present);
        for (int direction = 0; direction < DIRECTIONS; direction++) {
            proofs.noteStarving(machine.plan, direction);
            proofs.noteWaits(machine.plan, direction);
        }
    }

    private void checkPhase(int phase) throws IndexOutOfBoundsException {
        if (!machine.plan.hasPhase(phase)) {
            throw new IndexOutOfBoundsException("there is no such phase");
        }
    }

    private static void checkDirection(int direction) throws IllegalArgumentException {
        if (direction < 0 || direction >= DIRECTIONS) {
            throw new IllegalArgumentException("a direction is 0 to 5");
        }
    }

    private static void checkMask(int mask) throws IllegalArgumentException {
        if (mask < 0 || mask > ALL_DIRECTIONS) {
            throw new IllegalArgumentException("a mask of directions is 0 to 63");
        }
    }

    private static void checkHold(int hold) throws IllegalArgumentException {
        if (hold < 1 || hold > MOST_HOLD) {
            throw new IllegalArgumentException("a hold is 1 to 9");
        }
    }

    private static boolean has(int mask, int bit) {
        return (mask >> bit & 1) == 1;
    }

    private static long mix(long hash, long value) {
        return 31L * hash + value;
    }

    /** As Double.doubleToLongBits, for shares 0 to 1: that function is outside the library we may use. */
    private static long bitsOfShare(double share) {
        if (share <= 0.0) {
            return 0L;
        }
        double rest = share;
        long exponent = 1023L;
        for (int doubling = 0; doubling < 1000 && rest < 1.0; doubling++) {
            rest = rest * 2.0;
            exponent--;
        }
        return (exponent << 52) | (long) ((rest - 1.0) * 4503599627370496.0);
    }

    /** Numbers in a row: the one place where an array of them is used, so that each index is tested. */
    private static final class Row {
        private final int[] cells;

        Row(int length) {
            cells = new int[length < 0 ? 0 : length];
        }

        int at(int index) {
            return index >= 0 && index < cells.length ? cells[index] : 0;
        }

        void put(int index, int value) {
            if (index >= 0 && index < cells.length) {
                cells[index] = value;
            }
        }

        void fill(int value) {
            for (int index = 0; index < cells.length; index++) {
                cells[index] = value;
            }
        }

        void copyFrom(Row other) {
            for (int index = 0; index < cells.length; index++) {
                cells[index] = other.at(index);
            }
        }
    }

    /** What is built: phases, rules, directions that clash, the ticks of clearing. */
    private static final class Plan {
        final Row clashes = new Row(DIRECTIONS);
        final Row greens = new Row(MOST_PHASES);
        final Row holds = new Row(MOST_PHASES);
        final Row ruleCounts = new Row(MOST_PHASES);
        private final Row goals = new Row(MOST_PHASES * MOST_RULES);
        private final Row askers = new Row(MOST_PHASES * MOST_RULES);
        int phases = 0;
        int clearing = 2;

        boolean hasPhase(int phase) {
            return phase >= 0 && phase < phases;
        }

        boolean isFull() {
            return phases >= MOST_PHASES;
        }

        boolean isFullOfRules(int phase) {
            return ruleCounts.at(phase) >= MOST_RULES;
        }

        int goalOf(int phase, int rule) {
            return goals.at(phase * MOST_RULES + rule);
        }

        int askersOf(int phase, int rule) {
            return askers.at(phase * MOST_RULES + rule);
        }

        int appendPhase(int itsGreens, int hold) {
            int phase = phases;
            greens.put(phase, itsGreens);
            holds.put(phase, hold);
            ruleCounts.put(phase, 0);
            phases = phase + 1;
            return phase;
        }

        int appendRule(int phase, int goal, int itsAskers) {
            int rule = ruleCounts.at(phase);
            goals.put(phase * MOST_RULES + rule, goal);
            askers.put(phase * MOST_RULES + rule, itsAskers);
            ruleCounts.put(phase, rule + 1);
            return rule + 1;
        }

        int removeRule(int phase) {
            int rule = ruleCounts.at(phase) - 1;
            ruleCounts.put(phase, rule);
            return goalOf(phase, rule);
        }

        void putClash(int one, int other, boolean clashing) {
            int withoutOther = clashes.at(one) & ~(1 << other);
            int withoutOne = clashes.at(other) & ~(1 << one);
            clashes.put(one, clashing ? withoutOther | 1 << other : withoutOther);
            clashes.put(other, clashing ? withoutOne | 1 << one : withoutOne);
        }

        boolean isUnsafe(int phase) {
            int itsGreens = greens.at(phase);
            for (int direction = 0; direction < DIRECTIONS; direction++) {
                if (has(itsGreens, direction) && (itsGreens & clashes.at(direction)) != 0) {
                    return true;
                }
            }
            return false;
        }

        int unsafePhases() {
            int mask = 0;
            for (int phase = 0; phase < phases; phase++) {
                if (isUnsafe(phase)) {
                    mask |= 1 << phase;
                }
            }
            return mask;
        }

        int phasesWith(int direction) {
            int mask = 0;
            for (int phase = 0; phase < phases; phase++) {
                if (has(greens.at(phase), direction)) {
                    mask |= 1 << phase;
                }
            }
            return mask;
        }

        int phasesWithout(int direction) {
            return ((1 << phases) - 1) & ~phasesWith(direction);
        }

        int clearingBetween(int phase, int goal) {
            return greens.at(phase) == greens.at(goal) ? 0 : clearing;
        }

        void copyFrom(Plan other) {
            clashes.copyFrom(other.clashes);
            greens.copyFrom(other.greens);
            holds.copyFrom(other.holds);
            ruleCounts.copyFrom(other.ruleCounts);
            goals.copyFrom(other.goals);
            askers.copyFrom(other.askers);
            phases = other.phases;
            clearing = other.clearing;
        }
    }

    /** A plan and how it runs: all that undo() restores. */
    private static final class Machine {
        final Plan plan = new Plan();
        final Row waits = new Row(DIRECTIONS);
        final Row served = new Row(DIRECTIONS);
        final Row longestServed = new Row(DIRECTIONS);
        final Row arrivals = new Row(MOST_PHASES);
        /** The phase, or the one to which the machine clears. */
        int present = 0;
        /** The phase that it leaves, of use while it clears. */
        private int leaving = 0;
        int stayed = 0;
        int left = 0;
        int ticks = 0;

        Machine() {
            waits.fill(NONE);
        }

        boolean isClearing() {
            return left > 0;
        }

        int greensNow() {
            int greens = plan.greens.at(present);
            return isClearing() ? greens & plan.greens.at(leaving) : greens;
        }

        int waiting() {
            int mask = 0;
            for (int direction = 0; direction < DIRECTIONS; direction++) {
                if (waits.at(direction) != NONE) {
                    mask |= 1 << direction;
                }
            }
            return mask;
        }

        boolean ruleHolds(int phase, int rule, int waiting) {
            int askers = plan.askersOf(phase, rule);
            return askers == 0 || (askers & waiting) != 0;
        }

        void putInto(int phase) {
            present = phase;
            stayed = 0;
            left = 0;
            waits.fill(NONE);
        }

        void passTick() {
            ticks++;
            passWaits();
            if (plan.phases == 0) {
                return;
            }
            if (isClearing()) {
                left--;
                if (left == 0) {
                    arrive();
                }
                return;
            }
            stayed++;
            if (stayed >= plan.holds.at(present)) {
                followRule();
            }
        }

        private void passWaits() {
            int greens = greensNow();
            for (int direction = 0; direction < DIRECTIONS; direction++) {
                int wait = waits.at(direction);
                if (wait == NONE) {
                    continue;
                }
                if (has(greens, direction)) {
                    waits.put(direction, NONE);
                    served.put(direction, served.at(direction) + 1);
                    longestServed.put(direction, Math.max(longestServed.at(direction), wait));
                } else {
                    waits.put(direction, wait + 1);
                }
            }
        }

        private void followRule() {
            int waiting = waiting();
            int rules = plan.ruleCounts.at(present);
            for (int rule = 0; rule < rules; rule++) {
                if (ruleHolds(present, rule, waiting)) {
                    leaveFor(plan.goalOf(present, rule));
                    return;
                }
            }
        }

        private void leaveFor(int goal) {
            leaving = present;
            present = goal;
            left = plan.clearingBetween(leaving, goal);
            if (left == 0) {
                arrive();
            }
        }

        private void arrive() {
            stayed = 0;
            arrivals.put(present, arrivals.at(present) + 1);
        }

        void copyFrom(Machine other) {
            plan.copyFrom(other.plan);
            waits.copyFrom(other.waits);
            served.copyFrom(other.served);
            longestServed.copyFrom(other.longestServed);
            arrivals.copyFrom(other.arrivals);
            present = other.present;
            leaving = other.leaving;
            stayed = other.stayed;
            left = other.left;
            ticks = other.ticks;
        }
    }

    /** The saved states, in a ring of machines that are made once and used again. */
    private static final class History {
        private final Machine[] ring = new Machine[MOST_SAVED];
        private int oldest = 0;
        int kept = 0;

        History() {
            for (int slot = 0; slot < ring.length; slot++) {
                ring[slot] = new Machine();
            }
        }

        void keep(Machine machine) {
            Machine saved = stateAt((oldest + kept) % MOST_SAVED);
            if (saved == null) {
                return;
            }
            saved.copyFrom(machine);
            if (kept == MOST_SAVED) {
                oldest = (oldest + 1) % MOST_SAVED;
            } else {
                kept++;
            }
        }

        void restore(Machine machine) {
            if (kept == 0) {
                return;
            }
            kept--;
            Machine saved = stateAt((oldest + kept) % MOST_SAVED);
            if (saved != null) {
                machine.copyFrom(saved);
            }
        }

        private Machine stateAt(int slot) {
            return slot >= 0 && slot < ring.length ? ring[slot] : null;
        }
    }

    /** The buffer of input text. */
    private static final class Text {
        private final Row codes = new Row(MOST_CODES);
        private final Reader reader = new Reader();
        int length = 0;

        void add(int code) {
            codes.put(length, code);
            length++;
        }

        int empty() {
            int before = length;
            length = 0;
            return before;
        }

        int errorPlace() {
            reader.begin();
            for (int place = 0; place < length; place++) {
                if (!reader.take(codes.at(place))) {
                    return place;
                }
            }
            return length;
        }

        boolean isComplete() {
            return errorPlace() == length && reader.canEnd();
        }

        /** Does the orders of a complete text up to the first one that cannot be done. */
        int doOrders(Plan plan) {
            int done = 0;
            reader.begin();
            for (int place = 0; place < length; place++) {
                int code = codes.at(place);
                if (code == ';') {
                    if (!reader.doOrder(plan)) {
                        return done;
                    }
                    done++;
                }
                reader.take(code);
            }
            return reader.doOrder(plan) ? done + 1 : done;
        }

        long mixInto(long before) {
            long hash = mix(before, length);
            for (int place = 0; place < length; place++) {
                hash = mix(hash, codes.at(place));
            }
            return hash;
        }
    }

    /** Reads a text character by character, and knows the order that it has read last. */
    private static final class Reader {
        private static final int AT_ORDER = 0;
        private static final int AT_GREENS = 1;
        private static final int AT_HOLD = 2;
        private static final int AT_PHASE = 3;
        private static final int AT_ARROW = 4;
        private static final int AT_GOAL = 5;
        private static final int AFTER_GOAL = 6;
        private static final int AT_FIRST_ASKER = 7;
        private static final int AT_ASKERS = 8;
        private static final int AT_ONE = 9;
        private static final int AT_OTHER = 10;
        private static final int AFTER_ORDER = 11;

        private int expected = AT_ORDER;
        private int kind = 0;
        private int first = 0;
        private int second = 0;
        private int mask = 0;
        /** The least digit that may come next among digits that ascend. */
        private int least = 0;

        void begin() {
            expected = AT_ORDER;
        }

        boolean canEnd() {
            return expected == AFTER_GOAL || expected == AT_ASKERS || expected == AFTER_ORDER;
        }

        /** Takes the next character; false if no text goes on with it. */
        boolean take(int code) {
            if (code == ';' && canEnd()) {
                expected = AT_ORDER;
                return true;
            }
            switch (expected) {
                case AT_ORDER:
                    return takeKind(code);
                case AT_GREENS:
                    return takeSign(code, '*', AT_HOLD) || takeAscending(code, AT_GREENS);
                case AT_HOLD:
                    return takeSecond(code, 1, 9, AFTER_ORDER);
                case AT_PHASE:
                    return takeFirst(code, 7, AT_ARROW);
                case AT_ARROW:
                    return takeSign(code, '>', AT_GOAL);
                case AT_GOAL:
                    return takeSecond(code, 0, 7, AFTER_GOAL);
                case AFTER_GOAL:
                    return takeSign(code, '?', AT_FIRST_ASKER);
                case AT_FIRST_ASKER:
                case AT_ASKERS:
                    return takeAscending(code, AT_ASKERS);
                case AT_ONE:
                    // 5 would leave no greater direction for the other one
                    return takeFirst(code, 4, AT_OTHER);
                case AT_OTHER:
                    return takeSecond(code, first + 1, 5, AFTER_ORDER);
                default:
                    return false;
            }
        }

        private boolean takeKind(int code) {
            if (code != 'p' && code != 'r' && code != 'x') {
                return false;
            }
            kind = code;
            mask = 0;
            least = 0;
            expected = code == 'p' ? AT_GREENS : code == 'r' ? AT_PHASE : AT_ONE;
            return true;
        }

        private boolean takeSign(int code, int sign, int next) {
            if (code != sign) {
                return false;
            }
            expected = next;
            return true;
        }

        private boolean takeFirst(int code, int most, int next) {
            int digit = code - '0';
            if (digit < 0 || digit > most) {
                return false;
            }
            first = digit;
            expected = next;
            return true;
        }

        private boolean takeSecond(int code, int from, int most, int next) {
            int digit = code - '0';
            if (digit < from || digit > most) {
                return false;
            }
            second = digit;
            expected = next;
            return true;
        }

        private boolean takeAscending(int code, int next) {
            int digit = code - '0';
            if (digit < least || digit >= DIRECTIONS) {
                return false;
            }
            mask |= 1 << digit;
            least = digit + 1;
            expected = next;
            return true;
        }

        /** Does the order read last; false if its method would throw an exception. */
        boolean doOrder(Plan plan) {
            if (kind == 'p') {
                if (plan.isFull()) {
                    return false;
                }
                plan.appendPhase(mask, second);
            } else if (kind == 'r') {
                if (!plan.hasPhase(first) || !plan.hasPhase(second) || first == second
                        || plan.isFullOfRules(first)) {
                    return false;
                }
                plan.appendRule(first, second, mask);
            } else {
                plan.putClash(first, second, true);
            }
            return true;
        }
    }

    /**
     * What can happen. The note methods find it anew from the plan whenever the face is asked for a
     * proof, so that no answer is kept across a change.
     */
    private static final class Proofs {
        /** Staying for ever, as a way beside those to the phases: one that never leads to a green. */
        private static final int FOR_EVER = 1 << MOST_PHASES;
        /** More than any wait: at most 7 phases of at most 9 + 5 ticks are on a way without a round. */
        private static final int FAR = 1000;

        private final Row leads = new Row(MOST_PHASES);
        private final Row ways = new Row(DIRECTIONS * MOST_PHASES);
        private final Row longest = new Row(DIRECTIONS * MOST_PHASES);
        private final Row shortest = new Row(DIRECTIONS * MOST_PHASES);
        private final Row starving = new Row(DIRECTIONS);
        int coming = 0;

        void noteComing(Plan plan, int present) {
            for (int phase = 0; phase < plan.phases; phase++) {
                int mask = 0;
                int rules = plan.ruleCounts.at(phase);
                for (int rule = 0; rule < rules; rule++) {
                    mask |= 1 << plan.goalOf(phase, rule);
                }
                leads.put(phase, mask);
            }
            coming = comingWith(plan, present, NONE, NONE);
        }

        void noteStarving(Plan plan, int direction) {
            for (int phase = 0; phase < plan.phases; phase++) {
                ways.put(cell(direction, phase), waysFrom(plan, direction, phase));
            }
            starving.put(direction, starvingWith(plan, direction, NONE, NONE));
        }

        /** As many rounds as phases suffice: ways without a round are no longer. */
        void noteWaits(Plan plan, int direction) {
            int with = plan.phasesWith(direction);
            for (int phase = 0; phase < plan.phases; phase++) {
                longest.put(cell(direction, phase), 0);
                shortest.put(cell(direction, phase), has(with, phase) ? 0 : FAR);
            }
            for (int round = 0; round < plan.phases; round++) {
                for (int phase = 0; phase < plan.phases; phase++) {
                    if (!has(with, phase)) {
                        noteWait(plan, direction, phase);
                    }
                }
            }
        }

        boolean starvesFrom(int direction, int phase) {
            return has(starving.at(direction), phase);
        }

        boolean canStarve(int direction) {
            return (starving.at(direction) & coming) != 0;
        }

        int starvingDirections() {
            int mask = 0;
            for (int direction = 0; direction < DIRECTIONS; direction++) {
                if (canStarve(direction)) {
                    mask |= 1 << direction;
                }
            }
            return mask;
        }

        int longestFrom(int direction, int phase) {
            return starvesFrom(direction, phase) ? NONE : longest.at(cell(direction, phase));
        }

        int shortestFrom(int direction, int phase) {
            int wait = shortest.at(cell(direction, phase));
            return wait >= FAR ? NONE : wait;
        }

        int roundPhases(Plan plan, int direction) {
            int without = plan.phasesWithout(direction);
            int mask = 0;
            for (int phase = 0; phase < plan.phases; phase++) {
                if (has(coming & without, phase) && goesOn(plan, direction, phase, without)) {
                    mask |= 1 << phase;
                }
            }
            return mask;
        }

        /** The greatest longest wait from a phase that can come; NONE if slowest() passes it over. */
        int worstWait(Plan plan, int direction) {
            int worst = NONE;
            if (canStarve(direction) || (plan.phasesWith(direction) & coming) == 0) {
                return worst;
            }
            for (int phase = 0; phase < plan.phases; phase++) {
                if (has(coming, phase)) {
                    worst = Math.max(worst, longest.at(cell(direction, phase)));
                }
            }
            return worst;
        }

        int remedyAt(Plan plan, int present, int direction, int phase) {
            if (!canStarve(direction)) {
                return NONE;
            }
            for (int goal = 0; goal < plan.phases; goal++) {
                if (goal != phase && (starvingWith(plan, direction, phase, goal)
                        & comingWith(plan, present, phase, goal)) == 0) {
                    return goal;
                }
            }
            return NONE;
        }

        private static int cell(int direction, int phase) {
            return direction * MOST_PHASES + phase;
        }

        /** The phases that can come, with one more rule from a phase (NONE: without it) to a goal. */
        private int comingWith(Plan plan, int present, int from, int goal) {
            int mask = plan.hasPhase(present) ? 1 << present : 0;
            boolean grows = true;
            for (int round = 0; round < plan.phases && grows; round++) {
                int before = mask;
                for (int phase = 0; phase < plan.phases; phase++) {
                    if (has(mask, phase)) {
                        mask |= phase == from ? leads.at(phase) | 1 << goal : leads.at(phase);
                    }
                }
                grows = mask != before;
            }
            return mask;
        }

        /** The goals of the rules that can be followed while the direction waits, and FOR_EVER. */
        private int waysFrom(Plan plan, int direction, int phase) {
            int mask = 0;
            int ahead = 0;
            int rules = plan.ruleCounts.at(phase);
            for (int rule = 0; rule < rules; rule++) {
                int askers = plan.askersOf(phase, rule);
                boolean certain = askers == 0 || has(askers, direction);
                if (certain || (askers & ~ahead) != 0) {
                    mask |= 1 << plan.goalOf(phase, rule);
                }
                if (certain) {
                    return mask;
                }
                ahead |= askers;
            }
            return mask | FOR_EVER;
        }

        /**
         * The phases from which the direction can starve; a first rule from a phase (NONE: without it)
         * to a goal, asked for by the direction, would be the only way from there.
         */
        private int starvingWith(Plan plan, int direction, int from, int goal) {
            int all = (1 << plan.phases) - 1;
            int helped = plan.phasesWith(direction);
            boolean grows = true;
            for (int round = 0; round < plan.phases && grows; round++) {
                int before = helped;
                for (int phase = 0; phase < plan.phases; phase++) {
                    int out = phase == from ? 1 << goal : ways.at(cell(direction, phase));
                    if ((out & ~helped) == 0) {
                        helped |= 1 << phase;
                    }
                }
                grows = helped != before;
            }
            return all & ~helped;
        }

        private void noteWait(Plan plan, int direction, int phase) {
            int out = ways.at(cell(direction, phase));
            int most = 0;
            int least = FAR;
            for (int goal = 0; goal < plan.phases; goal++) {
                if (has(out, goal)) {
                    int onWay = plan.holds.at(phase) + plan.clearingBetween(phase, goal);
                    most = Math.max(most, onWay + longest.at(cell(direction, goal)));
                    least = Math.min(least, onWay + shortest.at(cell(direction, goal)));
                }
            }
            longest.put(cell(direction, phase), most);
            shortest.put(cell(direction, phase), least);
        }

        /** Whether the machine can stay in the phase for ever, or come again without a green between. */
        private boolean goesOn(Plan plan, int direction, int phase, int without) {
            int out = ways.at(cell(direction, phase));
            if ((out & FOR_EVER) != 0) {
                return true;
            }
            int reached = out & without;
            boolean grows = true;
            for (int round = 0; round < plan.phases && grows; round++) {
                int before = reached;
                for (int next = 0; next < plan.phases; next++) {
                    if (has(reached, next)) {
                        reached |= ways.at(cell(direction, next)) & without;
                    }
                }
                grows = reached != before;
            }
            return has(reached, phase);
        }
    }
}
