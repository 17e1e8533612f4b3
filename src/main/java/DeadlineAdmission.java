import java.util.NoSuchElementException;

/**
 * An admission controller for periodic tasks with deadlines and two criticality levels on one processor.
 *
 * No call meets an exception of the machine: the face looks at every argument, a stored period is never below 1,
 * and a task number is used only below the count of tasks, which never exceeds MOST_TASKS.
 */
public final class DeadlineAdmission {
    public static final int REJECTED = -1;

    private static final int MOST_TASKS = 8;
    private static final int LONGEST_PERIOD = 40;
    private static final int GREATEST_IMPORTANCE = 9;
    private static final int MOST_LEVELS = 2;
    private static final int MOST_STEPS = MOST_TASKS * MOST_LEVELS;
    private static final int GREATEST_SCALE = 8;
    private static final int LONGEST_INTERVAL = 200;
    private static final int LONGEST_HORIZON = 200;
    private static final int MOST_CHANGES = 6;
    private static final int LONGEST_TEXT = 30;
    private static final int TEXT_NUMBERS = 6;
    private static final int LOW = 0;
    private static final int HIGH = 1;

    private final Configuration current;
    private final Configuration trial;
    private final Configuration saved;
    private final History history;
    private final TaskText text;
    private final Simulation simulation;
    private boolean hasSaved;
    private boolean hasSimulation;
    private boolean hasRejection;
    private int rejectedMode;
    private int rejectedLength;
    private int rejectedDemand;

    public DeadlineAdmission() {
        current = new Configuration();
        trial = new Configuration();
        saved = new Configuration();
        history = new History();
        text = new TaskText();
        simulation = new Simulation();
    }

    // Changes of the configuration

    public int propose(int period, int deadline, int lowBudget, int highBudget, int importance, int levels)
            throws IllegalArgumentException, IllegalStateException {
        if (!timesAreInRange(period, deadline, lowBudget, highBudget)
                || !ranksAreInRange(highBudget, importance, levels)) {
            throw new IllegalArgumentException("a number is out of range");
        }
        if (current.count >= MOST_TASKS) {
            throw new IllegalStateException("there are 8 tasks");
        }
        trial.copyFrom(current);
        trial.append(period, deadline, lowBudget, highBudget, importance, levels);
        boolean admissible = trial.takeGreatestScale();
        for (int step = 0; step < MOST_STEPS && !admissible && trial.degradeOnce(); step++) {
            admissible = trial.takeGreatestScale();
        }
        if (!admissible) {
            recordRejection();
            return REJECTED;
        }
        commitTrial();
        return current.count - 1;
    }

    public int proposeText() throws IllegalArgumentException, IllegalStateException {
        text.readAndEmpty();
        if (text.fault >= 0) {
            throw new IllegalArgumentException("the text has a fault");
        }
        int[] numbers = text.numbers;
        return propose(numbers[0], numbers[1], numbers[2], numbers[3], numbers[4], numbers[5]);
    }

    public int appendCharacter(int character) throws IllegalArgumentException, IllegalStateException {
        if (character < 33 || character > 126) {
            throw new IllegalArgumentException("the character is not from 33 to 126");
        }
        if (text.length >= LONGEST_TEXT) {
            throw new IllegalStateException("the text has 30 characters");
        }
        text.append(character);
        return text.length;
    }

    public int faultPosition() {
        return text.fault;
    }

    public int withdraw(int task) throws IndexOutOfBoundsException {
        requireTask(task);
        trial.copyFrom(current);
        trial.removeAt(task);
        trial.takeGreatestScale();
        commitTrial();
        return current.count;
    }

    public int upgrade() {
        trial.copyFrom(current);
        int decreases = 0;
        for (int importance = GREATEST_IMPORTANCE; importance >= 0; importance--) {
            for (int task = 0; task < trial.count; task++) {
                if (trial.importance[task] == importance) {
                    decreases += trial.lowerLevel(task);
                }
            }
        }
        trial.takeGreatestScale();
        commitTrial();
        return decreases;
    }

    public int setLevel(int task, int level)
            throws IndexOutOfBoundsException, IllegalArgumentException, IllegalStateException {
        requireTask(task);
        if (level < 0 || level > current.greatestLevel[task]) {
            throw new IllegalArgumentException("the level is out of range");
        }
        int previous = current.level[task];
        trial.copyFrom(current);
        trial.level[task] = level;
        if (!trial.takeGreatestScale()) {
            throw new IllegalStateException("the configuration would not be admissible");
        }
        commitTrial();
        return previous;
    }

    public int undo() throws IllegalStateException {
        if (history.kept == 0) {
            throw new IllegalStateException("there is no change to take back");
        }
        history.takeBackInto(current);
        hasSimulation = false;
        return history.kept;
    }

    public void save() {
        saved.copyFrom(current);
        hasSaved = true;
    }

    public int restore() throws IllegalStateException {
        if (!hasSaved) {
            throw new IllegalStateException("nothing was saved");
        }
        trial.copyFrom(saved);
        commitTrial();
        return current.count;
    }

    // The tasks

    public int taskCount() {
        return current.count;
    }

    public int scale() {
        return current.scale;
    }

    public int period(int task) throws IndexOutOfBoundsException {
        requireTask(task);
        return current.effectivePeriod(task);
    }

    public int deadline(int task) throws IndexOutOfBoundsException {
        requireTask(task);
        return current.deadline[task];
    }

    public int virtualDeadline(int task) throws IndexOutOfBoundsException {
        requireTask(task);
        return current.deadlineWithScale(task, current.scale);
    }

    public int budget(int task, int mode)
            throws IndexOutOfBoundsException, IllegalArgumentException, UnsupportedOperationException {
        requireTask(task);
        requireMode(mode);
        if (mode == LOW) {
            return current.lowBudget[task];
        }
        if (!current.hasHighBudget(task)) {
            throw new UnsupportedOperationException("the task is not critical");
        }
        return current.highBudget[task];
    }

    public int level(int task) throws IndexOutOfBoundsException {
        requireTask(task);
        return current.level[task];
    }

    public boolean isCritical(int task) throws IndexOutOfBoundsException {
        requireTask(task);
        return current.hasHighBudget(task);
    }

    // Demand and tests

    public int demand(int mode, int t) throws IllegalArgumentException {
        requireMode(mode);
        if (t < 0 || t > LONGEST_INTERVAL) {
            throw new IllegalArgumentException("t is out of range");
        }
        return current.totalDemand(mode, t, current.scale);
    }

    public int slack(int mode) throws IllegalArgumentException {
        requireMode(mode);
        return spareTime(mode, tightestInterval(mode));
    }

    public int tightest(int mode) throws IllegalArgumentException {
        requireMode(mode);
        return tightestInterval(mode);
    }

    public boolean passes(int mode, int otherScale) throws IllegalArgumentException {
        requireMode(mode);
        if (otherScale < 1 || otherScale > GREATEST_SCALE) {
            throw new IllegalArgumentException("the scale is out of range");
        }
        return current.firstFailure(mode, otherScale) == 0;
    }

    public int feasibleScales() {
        int scales = 0;
        for (int scale = 1; scale <= GREATEST_SCALE; scale++) {
            if (current.isSchedulableWith(scale)) {
                scales |= 1 << scale;
            }
        }
        return scales;
    }

    public double utilization(int mode) throws IllegalArgumentException {
        requireMode(mode);
        double sum = 0.0;
        for (int task = 0; task < current.count; task++) {
            if (mode == LOW) {
                sum += (double) current.lowBudget[task] / (double) current.effectivePeriod(task);
            } else if (current.hasHighBudget(task)) {
                sum += (double) current.highBudget[task] / (double) current.effectivePeriod(task);
            }
        }
        return sum;
    }

    public long utilizationBits(int mode) throws IllegalArgumentException {
        return doubleBits(utilization(mode));
    }

    public float load(int mode) throws IllegalArgumentException {
        requireMode(mode);
        float greatest = 0.0f;
        for (int t = 1; t <= LONGEST_INTERVAL; t++) {
            float quotient = (float) current.totalDemand(mode, t, current.scale) / (float) t;
            if (quotient > greatest) {
                greatest = quotient;
            }
        }
        return greatest;
    }

    public int loadBits(int mode) throws IllegalArgumentException {
        return floatBits(load(mode));
    }

    public int descentLength() {
        int length = 0;
        int point = current.greatestTestPointBelow(LONGEST_INTERVAL + 1);
        while (point > 0 && length < LONGEST_INTERVAL) {
            length++;
            point = descentPointAfter(point);
        }
        return length;
    }

    public int descentPoint(int index) throws IndexOutOfBoundsException {
        if (index < 0 || index >= LONGEST_INTERVAL) {
            throw new IndexOutOfBoundsException("there is no such point");
        }
        int point = current.greatestTestPointBelow(LONGEST_INTERVAL + 1);
        for (int passed = 0; passed < index && point > 0; passed++) {
            point = descentPointAfter(point);
        }
        if (point == 0) {
            throw new IndexOutOfBoundsException("there is no such point");
        }
        return point;
    }

    // The latest rejection

    public int rejectionMode() throws NoSuchElementException {
        requireRejection();
        return rejectedMode;
    }

    public int rejectionLength() throws NoSuchElementException {
        requireRejection();
        return rejectedLength;
    }

    public int rejectionDemand() throws NoSuchElementException {
        requireRejection();
        return rejectedDemand;
    }

    // The latest simulation

    public int simulate(int seed, int overrun, int horizon) throws IllegalArgumentException {
        if (overrun < 0 || overrun > 100) {
            throw new IllegalArgumentException("overrun is out of range");
        }
        if (horizon < 1 || horizon > LONGEST_HORIZON) {
            throw new IllegalArgumentException("the horizon is out of range");
        }
        simulation.run(current, seed, overrun, horizon);
        hasSimulation = true;
        return simulation.lateJobs;
    }

    public int completed() throws IllegalStateException {
        requireSimulation();
        return simulation.completedJobs;
    }

    public int dropped() throws IllegalStateException {
        requireSimulation();
        return simulation.droppedJobs;
    }

    public int switches() throws IllegalStateException {
        requireSimulation();
        return simulation.highSwitches;
    }

    public int idleUnits() throws IllegalStateException {
        requireSimulation();
        return simulation.unitsWithoutJob;
    }

    public int response(int task) throws IndexOutOfBoundsException, IllegalStateException, NoSuchElementException {
        requireTask(task);
        requireSimulation();
        if (simulation.greatestResponse[task] == 0) {
            throw new NoSuchElementException("no job of the task was completed");
        }
        return simulation.greatestResponse[task];
    }

    // What the face refuses

    private static boolean timesAreInRange(int period, int deadline, int lowBudget, int highBudget) {
        return period >= 1 && period <= LONGEST_PERIOD
                && deadline >= 1 && deadline <= period
                && lowBudget >= 1 && lowBudget <= deadline
                && (highBudget == 0 || (highBudget >= lowBudget && highBudget <= deadline));
    }

    private static boolean ranksAreInRange(int highBudget, int importance, int levels) {
        return importance >= 0 && importance <= GREATEST_IMPORTANCE
                && levels >= 0 && levels <= (highBudget == 0 ? MOST_LEVELS : 0);
    }

    private void requireTask(int task) {
        if (task < 0 || task >= current.count) {
            throw new IndexOutOfBoundsException("there is no such task");
        }
    }

    private static void requireMode(int mode) {
        if (mode != LOW && mode != HIGH) {
            throw new IllegalArgumentException("the mode is not 0 or 1");
        }
    }

    private void requireRejection() {
        if (!hasRejection) {
            throw new NoSuchElementException("no task has been rejected");
        }
    }

    private void requireSimulation() {
        if (!hasSimulation) {
            throw new IllegalStateException("there was no simulation since the latest change");
        }
    }

    // Steps of the calls above

    private void recordRejection() {
        int lowFailure = trial.firstFailure(LOW, GREATEST_SCALE);
        rejectedMode = lowFailure > 0 ? LOW : HIGH;
        rejectedLength = lowFailure > 0 ? lowFailure : trial.firstFailure(HIGH, GREATEST_SCALE);
        rejectedDemand = trial.totalDemand(rejectedMode, rejectedLength, GREATEST_SCALE);
        hasRejection = true;
    }

    private void commitTrial() {
        history.remember(current);
        current.copyFrom(trial);
        hasSimulation = false;
    }

    private int spareTime(int mode, int t) {
        return t - current.totalDemand(mode, t, current.scale);
    }

    private int tightestInterval(int mode) {
        int tightest = 1;
        int least = spareTime(mode, 1);
        for (int t = 2; t <= LONGEST_INTERVAL; t++) {
            int spare = spareTime(mode, t);
            if (spare < least) {
                least = spare;
                tightest = t;
            }
        }
        return tightest;
    }

    /** The points fall strictly, so a descent ends after at most LONGEST_INTERVAL of them; 0 stands behind the last. */
    private int descentPointAfter(int point) {
        int demanded = current.totalDemand(LOW, point, current.scale);
        if (demanded > point || demanded <= current.leastTestPoint()) {
            return 0;
        }
        return demanded < point ? demanded : current.greatestTestPointBelow(point);
    }

    /** Written out because the language's rules leave no Double.doubleToLongBits; utilizations are 0 or normal. */
    private static long doubleBits(double value) {
        if (value <= 0.0) {
            return 0L;
        }
        double mantissa = value;
        int exponent = 1023;
        for (int step = 0; step < 1023 && mantissa >= 2.0; step++) {
            mantissa = mantissa / 2.0;
            exponent++;
        }
        for (int step = 0; step < 1022 && mantissa < 1.0; step++) {
            mantissa = mantissa * 2.0;
            exponent--;
        }
        long fraction = (long) ((mantissa - 1.0) * (double) (1L << 52));
        return ((long) exponent << 52) + fraction;
    }

    /** As doubleBits, for loads, which are 0 or normal too. */
    private static int floatBits(float value) {
        if (value <= 0.0f) {
            return 0;
        }
        float mantissa = value;
        int exponent = 127;
        for (int step = 0; step < 127 && mantissa >= 2.0f; step++) {
            mantissa = mantissa / 2.0f;
            exponent++;
        }
        for (int step = 0; step < 126 && mantissa < 1.0f; step++) {
            mantissa = mantissa * 2.0f;
            exponent--;
        }
        int fraction = (int) ((mantissa - 1.0f) * (float) (1 << 23));
        return (exponent << 23) + fraction;
    }

    /** Tasks with their service levels and the scale. */
    private static final class Configuration {
        private final int[] basePeriod = new int[MOST_TASKS];
        private final int[] deadline = new int[MOST_TASKS];
        private final int[] lowBudget = new int[MOST_TASKS];
        private final int[] highBudget = new int[MOST_TASKS];
        private final int[] importance = new int[MOST_TASKS];
        private final int[] greatestLevel = new int[MOST_TASKS];
        private final int[] level = new int[MOST_TASKS];
        private int count;
        private int scale = GREATEST_SCALE;

        void copyFrom(Configuration other) {
            for (int task = 0; task < other.count; task++) {
                copyTask(other, task, task);
            }
            count = other.count;
            scale = other.scale;
        }

        private void copyTask(Configuration other, int from, int to) {
            basePeriod[to] = other.basePeriod[from];
            deadline[to] = other.deadline[from];
            lowBudget[to] = other.lowBudget[from];
            highBudget[to] = other.highBudget[from];
            importance[to] = other.importance[from];
            greatestLevel[to] = other.greatestLevel[from];
            level[to] = other.level[from];
        }

        void append(int newPeriod, int newDeadline, int newLow, int newHigh, int newImportance, int newLevels) {
            basePeriod[count] = newPeriod;
            deadline[count] = newDeadline;
            lowBudget[count] = newLow;
            highBudget[count] = newHigh;
            importance[count] = newImportance;
            greatestLevel[count] = newLevels;
            level[count] = 0;
            count++;
        }

        void removeAt(int removed) {
            for (int task = removed + 1; task < count; task++) {
                copyTask(this, task, task - 1);
            }
            count--;
        }

        boolean hasHighBudget(int task) {
            return highBudget[task] > 0;
        }

        /** Every divisor of the class comes from here, so it is seen here that none is 0. */
        int effectivePeriod(int task) {
            int effective = basePeriod[task] * (level[task] + 1);
            return effective >= 1 ? effective : 1;
        }

        int deadlineWithScale(int task, int anyScale) {
            if (highBudget[task] == 0) {
                return deadline[task];
            }
            int scaled = deadline[task] * anyScale / GREATEST_SCALE;
            return scaled > lowBudget[task] ? scaled : lowBudget[task];
        }

        int totalDemand(int mode, int t, int anyScale) {
            int sum = 0;
            for (int task = 0; task < count; task++) {
                int first = deadlineWithScale(task, anyScale);
                int cycle = effectivePeriod(task);
                if (mode == LOW) {
                    sum += lowDemand(task, t, first, cycle);
                } else if (highBudget[task] > 0) {
                    sum += highDemand(task, t, deadline[task] - first, cycle);
                }
            }
            return sum;
        }

        private int lowDemand(int task, int t, int first, int cycle) {
            if (t < first) {
                return 0;
            }
            return lowBudget[task] * (1 + (t - first) / cycle);
        }

        private int highDemand(int task, int t, int gap, int cycle) {
            if (t < gap) {
                return 0;
            }
            int rest = t % cycle;
            int full = highBudget[task] * (1 + (t - gap) / cycle);
            int alreadyDone = lowBudget[task] + gap - rest;
            boolean carriesOver = rest >= gap && rest < deadline[task] && alreadyDone > 0;
            return carriesOver ? full - alreadyDone : full;
        }

        /** The least t for which the test fails, 0 if it is passed. */
        int firstFailure(int mode, int anyScale) {
            for (int t = 1; t <= LONGEST_INTERVAL; t++) {
                if (totalDemand(mode, t, anyScale) > t) {
                    return t;
                }
            }
            return 0;
        }

        boolean isSchedulableWith(int anyScale) {
            return firstFailure(LOW, anyScale) == 0 && firstFailure(HIGH, anyScale) == 0;
        }

        /** Whether the configuration is admissible; if it is not, the scale stays. */
        boolean takeGreatestScale() {
            for (int candidate = GREATEST_SCALE; candidate >= 1; candidate--) {
                if (isSchedulableWith(candidate)) {
                    scale = candidate;
                    return true;
                }
            }
            return false;
        }

        /** Whether a step was possible. */
        boolean degradeOnce() {
            int chosen = -1;
            for (int task = 0; task < count; task++) {
                if (level[task] < greatestLevel[task]
                        && (chosen < 0 || importance[task] < importance[chosen])) {
                    chosen = task;
                }
            }
            if (chosen < 0) {
                return false;
            }
            level[chosen]++;
            return true;
        }

        /** How often the level could be decreased. */
        int lowerLevel(int task) {
            int before = level[task];
            for (int step = 0; step < before; step++) {
                level[task]--;
                if (!takeGreatestScale()) {
                    level[task]++;
                    return step;
                }
            }
            return before;
        }

        /** A test point is a number V + k * P; 0 if there is none below the limit. */
        int greatestTestPointBelow(int limit) {
            int greatest = 0;
            for (int task = 0; task < count; task++) {
                int first = deadlineWithScale(task, scale);
                if (first < limit) {
                    int wholePeriods = (limit - 1 - first) / effectivePeriod(task);
                    greatest = Math.max(greatest, first + wholePeriods * effectivePeriod(task));
                }
            }
            return greatest;
        }

        int leastTestPoint() {
            int least = LONGEST_INTERVAL;
            for (int task = 0; task < count; task++) {
                least = Math.min(least, deadlineWithScale(task, scale));
            }
            return least;
        }
    }

    /** The configurations before the latest changes, in a ring that forgets the oldest. */
    private static final class History {
        private final Configuration[] ring = new Configuration[MOST_CHANGES];
        private int next;
        private int kept;

        History() {
            for (int slot = 0; slot < MOST_CHANGES; slot++) {
                ring[slot] = new Configuration();
            }
        }

        void remember(Configuration configuration) {
            ring[next].copyFrom(configuration);
            next = (next + 1) % MOST_CHANGES;
            kept = Math.min(kept + 1, MOST_CHANGES);
        }

        void takeBackInto(Configuration configuration) {
            next = (next + MOST_CHANGES - 1) % MOST_CHANGES;
            kept--;
            configuration.copyFrom(ring[next]);
        }
    }

    /** The text, and what the latest reading found in it. */
    private static final class TaskText {
        private final int[] characters = new int[LONGEST_TEXT];
        private final int[] numbers = new int[TEXT_NUMBERS];
        private int length;
        private int fault = -1;

        void append(int character) {
            characters[length] = character;
            length++;
        }

        void readAndEmpty() {
            fault = findFault();
            length = 0;
        }

        /** Fills in the numbers on its way; -1 if there is no fault. */
        private int findFault() {
            int position = 0;
            for (int index = 0; index < TEXT_NUMBERS; index++) {
                if (index > 0) {
                    if (!hasComma(position)) {
                        return position;
                    }
                    position++;
                }
                if (!hasDigit(position)) {
                    return position;
                }
                int number = characters[position] - '0';
                position++;
                if (hasDigit(position)) {
                    number = number * 10 + characters[position] - '0';
                    position++;
                }
                numbers[index] = number;
            }
            return position < length ? position : -1;
        }

        private boolean hasComma(int position) {
            return position < length && characters[position] == ',';
        }

        private boolean hasDigit(int position) {
            return position < length && characters[position] >= '0' && characters[position] <= '9';
        }
    }

    /**
     * Earliest-deadline-first scheduling of the tasks of one configuration.
     *
     * Of a task's pending jobs only the oldest can run, because its effective deadline comes first. A task that is
     * not critical has no pending job in high mode, so the pending jobs of a task always lie one period apart: the
     * oldest release and their number tell them all.
     */
    private static final class Simulation {
        private final Configuration tasks = new Configuration();
        private final int[] pendingJobs = new int[MOST_TASKS];
        private final int[] oldestRelease = new int[MOST_TASKS];
        private final int[] oldestHasRun = new int[MOST_TASKS];
        private final int[][] runningTime = new int[MOST_TASKS][LONGEST_HORIZON];
        private final int[] greatestResponse = new int[MOST_TASKS];
        private int mode;
        private int draw;
        private int overrunPercentage;
        private int end;
        private int lateJobs;
        private int completedJobs;
        private int droppedJobs;
        private int highSwitches;
        private int unitsWithoutJob;

        void run(Configuration configuration, int seed, int overrun, int horizon) {
            clear();
            tasks.copyFrom(configuration);
            draw = seed;
            overrunPercentage = overrun;
            end = Math.min(horizon, LONGEST_HORIZON);
            for (int unit = 0; unit < end; unit++) {
                if (earliestTask() < 0) {
                    mode = LOW;
                }
                releaseDueJobs(unit);
                int task = earliestTask();
                if (task < 0) {
                    unitsWithoutJob++;
                } else {
                    runOldestJob(task, unit);
                }
            }
            countLatePendingJobs();
        }

        private void clear() {
            for (int task = 0; task < MOST_TASKS; task++) {
                pendingJobs[task] = 0;
                greatestResponse[task] = 0;
            }
            mode = LOW;
            lateJobs = 0;
            completedJobs = 0;
            droppedJobs = 0;
            highSwitches = 0;
            unitsWithoutJob = 0;
        }

        private void releaseDueJobs(int unit) {
            for (int task = 0; task < tasks.count; task++) {
                if (unit % tasks.effectivePeriod(task) == 0) {
                    if (mode == HIGH && !tasks.hasHighBudget(task)) {
                        droppedJobs++;
                    } else {
                        releaseJob(task, unit);
                    }
                }
            }
        }

        private void releaseJob(int task, int unit) {
            boolean overruns = tasks.hasHighBudget(task) && drawOverrun();
            runningTime[task][unit] = overruns ? tasks.highBudget[task] : tasks.lowBudget[task];
            if (pendingJobs[task] == 0) {
                oldestRelease[task] = unit;
                oldestHasRun[task] = 0;
            }
            pendingJobs[task]++;
        }

        private boolean drawOverrun() {
            draw = draw * 1103515245 + 12345;
            return (draw >>> 16) % 100 < overrunPercentage;
        }

        /** The task whose oldest job has the earliest effective deadline, -1 if no job is pending. */
        private int earliestTask() {
            int chosen = -1;
            int earliest = 0;
            for (int task = 0; task < tasks.count; task++) {
                if (pendingJobs[task] > 0) {
                    int effective = effectiveDeadline(task);
                    if (chosen < 0 || effective < earliest) {
                        chosen = task;
                        earliest = effective;
                    }
                }
            }
            return chosen;
        }

        private int effectiveDeadline(int task) {
            int relative = mode == LOW ? tasks.deadlineWithScale(task, tasks.scale) : tasks.deadline[task];
            return oldestRelease[task] + relative;
        }

        private void runOldestJob(int task, int unit) {
            oldestHasRun[task]++;
            if (oldestHasRun[task] == runningTime[task][oldestRelease[task]]) {
                completeOldestJob(task, unit + 1);
            } else if (mode == LOW && tasks.hasHighBudget(task) && oldestHasRun[task] == tasks.lowBudget[task]) {
                mode = HIGH;
                highSwitches++;
                dropPendingJobs();
            }
        }

        private void completeOldestJob(int task, int time) {
            int responseTime = time - oldestRelease[task];
            greatestResponse[task] = Math.max(greatestResponse[task], responseTime);
            completedJobs++;
            if (responseTime > tasks.deadline[task]) {
                countLateJob(task, oldestRelease[task]);
            }
            pendingJobs[task]--;
            oldestRelease[task] += tasks.effectivePeriod(task);
            oldestHasRun[task] = 0;
        }

        private void dropPendingJobs() {
            for (int task = 0; task < tasks.count; task++) {
                if (!tasks.hasHighBudget(task)) {
                    droppedJobs += pendingJobs[task];
                    pendingJobs[task] = 0;
                }
            }
        }

        private void countLatePendingJobs() {
            for (int task = 0; task < tasks.count; task++) {
                for (int job = 0; job < pendingJobs[task]; job++) {
                    countLateJob(task, oldestRelease[task] + job * tasks.effectivePeriod(task));
                }
            }
        }

        /** Only jobs whose deadline lies within the horizon are judged. */
        private void countLateJob(int task, int release) {
            if (release + tasks.deadline[task] <= end) {
                lateJobs++;
            }
        }
    }
}
