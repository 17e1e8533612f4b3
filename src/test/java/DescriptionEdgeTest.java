import java.util.function.IntFunction;

/** The boundary cases that the document's part "Description" names, sentence by sentence, worked out by hand. */
public final class DescriptionEdgeTest extends Checks {
    private static final int[] EXTREMES = {Integer.MIN_VALUE, Integer.MAX_VALUE};

    public static void main(String[] args) {
        atMostEightTasks();
        rangesOfNumbers();
        serviceLevels();
        scales();
        virtualDeadlines();
        lowDemand();
        highDemand();
        demandOfSeveral();
        testFromOneToTwoHundred();
        testOfTheHighMode();
        degradingSteps();
        degradingOrder();
        rejections();
        descendingPoints();
        descendingSteps();
        simulatedUnits();
        modeBecomesLow();
        droppedBySwitch();
        earliestDeadlineFirst();
        modeBecomesHigh();
        draws();
        drawsInOrder();
        noLateJobs();
        texts();
        finish("the description's boundary cases hold");
    }

    // Tasks

    private static void atMostEightTasks() {
        sentence("at most 8 tasks, numbered from 0 in the order in which they were admitted");
        DeadlineAdmission x = eight();
        due("taskCount()", 8, () -> x.taskCount());
        proposed(x, STATE, 40, 40, 1, 0, 0, 0);
        due("taskCount() behind the refusal", 8, () -> x.taskCount());
        due("deadline(0)", 40, () -> x.deadline(0));
        due("deadline(7)", 33, () -> x.deadline(7));
        due("withdraw(3)", 7, () -> x.withdraw(3));
        proposed(x, 7, 40, 20, 1, 0, 0, 0);
        due("deadline(7) of the new task", 20, () -> x.deadline(7));
        proposed(x, STATE, 40, 40, 1, 0, 0, 0);
        due("undo()", 5, () -> x.undo());
        proposed(x, 7, 40, 21, 1, 0, 0, 0);
        proposed(x, STATE, 40, 40, 1, 0, 0, 0);
    }

    private static void range(String words, int least, int greatest, IntFunction<int[]> numbers) {
        sentence(words);
        for (int k = least; k <= greatest; k++) {
            DeadlineAdmission x = new DeadlineAdmission();
            proposed(x, 0, numbers.apply(k));
            due("taskCount()", 1, () -> x.taskCount());
        }
        outOfRange(numbers.apply(least - 1));
        outOfRange(numbers.apply(greatest + 1));
        for (int extreme : EXTREMES) {
            outOfRange(numbers.apply(extreme));
        }
    }

    private static void outOfRange(int[] numbers) {
        DeadlineAdmission x = new DeadlineAdmission();
        proposed(x, ARGUMENT, numbers);
        due("taskCount() behind the refusal", 0, () -> x.taskCount());
        due("undo() behind the refusal", STATE, () -> x.undo());
        due("rejectionMode() behind the refusal", NONE, () -> x.rejectionMode());
    }

    private static void rangesOfNumbers() {
        range("a period from 1 to 40", 1, 40, n -> task(n, 1, 1, 0, 0, 0));
        range("a deadline from 1 to T, T 17", 1, 17, n -> task(17, n, 1, 0, 0, 0));
        range("a deadline from 1 to T, T 1", 1, 1, n -> task(1, n, 1, 0, 0, 0));
        range("a deadline from 1 to T, T 40", 1, 40, n -> task(40, n, 1, 0, 0, 0));
        range("a low budget from 1 to D, D 13", 1, 13, n -> task(20, 13, n, 0, 0, 0));
        range("a low budget from 1 to D, D 1", 1, 1, n -> task(20, 1, n, 0, 0, 0));
        range("a high budget from CL to D", 5, 13, n -> task(20, 13, 5, n, 0, 0));
        range("a high budget from CL to D, CL equal to D", 5, 5, n -> task(20, 5, 5, n, 0, 0));
        range("a high budget from CL to D or 0, CL 1", 0, 4, n -> task(20, 4, 1, n, 0, 0));
        range("an importance from 0 to 9", 0, 9, n -> task(10, 10, 1, 0, n, 0));
        range("an importance from 0 to 9, critical", 0, 9, n -> task(10, 10, 1, 2, n, 0));
        range("a greatest service level from 0 to 2", 0, 2, n -> task(10, 10, 1, 0, 0, n));
        range("the greatest service level of a critical task is 0", 0, 0, n -> task(10, 10, 1, 2, 0, n));
        sentence("a high budget is written as 0 for tasks that are not critical");
        DeadlineAdmission x = with(task(20, 13, 5, 0, 0, 2), task(20, 5, 1, 1, 0, 0));
        due("isCritical(0)", false, () -> x.isCritical(0));
        due("isCritical(1)", true, () -> x.isCritical(1));
        outOfRange(task(20, 13, 5, 1, 0, 0));
        outOfRange(task(20, 13, 5, -1, 0, 0));
        outOfRange(task(20, 13, 5, -5, 0, 0));
        outOfRange(task(20, 13, 5, 5, 0, 2));
    }

    // Service levels

    private static void serviceLevels() {
        sentence("each task has a service level, which is 0 when the task is proposed");
        DeadlineAdmission alone = with(task(40, 40, 40, 0, 0, 2));
        levels(alone, 0);
        // The proposed task is degraded twice and rejected; the next one with the same number starts at 0 again.
        DeadlineAdmission again = seven(5);
        proposed(again, -1, 40, 40, 27, 0, 0, 2);
        proposed(again, 7, 40, 8, 1, 0, 0, 2);
        levels(again, 0, 0, 0, 0, 0, 0, 0, 0);
        sentence("the effective period is T * (level + 1)");
        int[] periods = {40, 80, 120};
        for (int level = 0; level <= 2; level++) {
            int l = level;
            due("setLevel(0, " + l + ")", Math.max(0, l - 1), () -> alone.setLevel(0, l));
            due("period(0)", periods[l], () -> alone.period(0));
            due("deadline(0)", 40, () -> alone.deadline(0));
        }
        DeadlineAdmission shortest = with(task(1, 1, 1, 0, 0, 2));
        due("setLevel(0, 2)", 0, () -> shortest.setLevel(0, 2));
        due("period(0)", 3, () -> shortest.period(0));
        sentence("a service level is not greater than the greatest one of the task");
        for (int greatest = 0; greatest <= 2; greatest++) {
            int last = greatest;
            DeadlineAdmission one = with(task(10, 10, 1, 0, 0, last));
            due("setLevel to the greatest one", 0, () -> one.setLevel(0, last));
            due("setLevel beyond it", ARGUMENT, () -> one.setLevel(0, last + 1));
            levels(one, last);
        }
    }

    // Scale

    /**
     * A lone task (8, 8, 1, CH) has V = scale and G = 8 - scale; its demand in high mode is CH for t = G + 1, so it
     * passes if CH is at most 9 - scale.
     */
    private static void scales() {
        sentence("a scale from 1 to 8, the greatest with which the tasks are schedulable");
        due("scale() at first", 8, () -> new DeadlineAdmission().scale());
        for (int high = 1; high <= 8; high++) {
            int scale = 9 - high;
            DeadlineAdmission x = with(task(8, 8, 1, high, 0, 0));
            due("scale()", scale, () -> x.scale());
            due("virtualDeadline(0)", scale, () -> x.virtualDeadline(0));
            due("feasibleScales()", (1 << (scale + 1)) - 2, () -> x.feasibleScales());
            due("passes(1, scale)", true, () -> x.passes(1, scale));
            if (scale < 8) {
                due("passes(1, scale + 1)", false, () -> x.passes(1, scale + 1));
            }
        }
        sentence("a configuration is admissible if it is schedulable with some scale");
        DeadlineAdmission none = new DeadlineAdmission();
        // With scale 1 is G = 35, and the demand for 35 is 39: no scale is left.
        proposed(none, -1, 40, 40, 1, 40, 0, 0);
        rejected(none, 1, 1, 40);
        due("scale() behind the rejection", 8, () -> none.scale());
        // With the scale 1 both virtual deadlines are 1, so the low mode has a least scale of its own.
        DeadlineAdmission two = with(task(8, 8, 1, 2, 0, 0), task(8, 8, 1, 2, 0, 0));
        due("feasibleScales()", 0b111100, () -> two.feasibleScales());
        due("scale()", 5, () -> two.scale());
        due("passes(0, 1)", false, () -> two.passes(0, 1));
        due("passes(0, 2)", true, () -> two.passes(0, 2));
        due("passes(1, 5)", true, () -> two.passes(1, 5));
        due("passes(1, 6)", false, () -> two.passes(1, 6));
    }

    private static void virtualDeadlines() {
        sentence("the virtual deadline of a critical task is D * scale / 8, or CL if this is greater");
        DeadlineAdmission budget = with(task(20, 13, 5, 13, 0, 0));
        due("scale()", 3, () -> budget.scale());
        due("virtualDeadline(0), CL 5 in place of 4", 5, () -> budget.virtualDeadline(0));
        // G is 12 - V and has to be at least 4: V may be 8 and is 7 by the scale 5.
        DeadlineAdmission greater = with(task(12, 12, 2, 6, 0, 0));
        due("scale()", 5, () -> greater.scale());
        due("virtualDeadline(0), 60 / 8 rounded down", 7, () -> greater.virtualDeadline(0));
        DeadlineAdmission equal = with(task(12, 12, 7, 11, 0, 0));
        due("scale()", 5, () -> equal.scale());
        due("virtualDeadline(0), CL 7 and 60 / 8", 7, () -> equal.virtualDeadline(0));
        sentence("the virtual deadline of any other task is D");
        DeadlineAdmission other = with(task(8, 8, 1, 8, 0, 0), task(40, 40, 1, 0, 0, 0));
        due("scale()", 1, () -> other.scale());
        due("virtualDeadline(0)", 1, () -> other.virtualDeadline(0));
        due("virtualDeadline(1)", 40, () -> other.virtualDeadline(1));
    }

    // Demand

    private static void demands(DeadlineAdmission x, int mode, int[]... pairs) {
        for (int[] pair : pairs) {
            due("demand(" + mode + ", " + pair[0] + ")", pair[1], () -> x.demand(mode, pair[0]));
        }
    }

    private static void lowDemand() {
        sentence("the demand in low mode is CL * (1 + (t - V) / P) if t is at least V, and 0 otherwise");
        DeadlineAdmission x = with(task(40, 40, 3, 0, 0, 2));
        demands(x, 0, task(0, 0), task(1, 0), task(39, 0), task(40, 3), task(41, 3), task(79, 3), task(80, 6), task(199, 12), task(200, 15));
        due("setLevel(0, 2)", 0, () -> x.setLevel(0, 2));
        demands(x, 0, task(39, 0), task(40, 3), task(80, 3), task(159, 3), task(160, 6), task(200, 6));
        demands(with(task(40, 1, 1, 0, 0, 0)), 0, task(0, 0), task(1, 1), task(40, 1), task(41, 2), task(200, 5));
        demands(with(task(1, 1, 1, 0, 0, 0)), 0, task(0, 0), task(1, 1), task(2, 2), task(200, 200));
        // V is 7 at the scale 5.
        demands(with(task(12, 12, 2, 6, 0, 0)), 0, task(6, 0), task(7, 2), task(12, 2), task(18, 2), task(19, 4));
        demands(new DeadlineAdmission(), 0, task(0, 0), task(200, 0));
    }

    private static void highDemand() {
        sentence("in high mode the demand of a task that is not critical is 0");
        demands(with(task(1, 1, 1, 0, 0, 0)), 1, task(0, 0), task(1, 0), task(200, 0));
        sentence("if t is less than G, the demand in high mode is 0");
        // V is 5, G is 8 and P is 20.
        DeadlineAdmission x = with(task(20, 13, 5, 13, 0, 0));
        demands(x, 1, task(0, 0), task(1, 0), task(7, 0), task(8, 8));
        sentence("minus CL + G - R if R is at least G and less than D and this is greater than 0");
        demands(x, 1, task(9, 9), task(12, 12), task(13, 13), task(14, 13), task(19, 13), task(20, 13), task(27, 13), task(28, 21), task(29, 22));
        demands(x, 1, task(32, 25), task(33, 26), task(34, 26), task(40, 26), task(47, 26), task(48, 34), task(187, 117), task(188, 125), task(200, 130));
        // V is 6 and G is 2: for R = 5 the difference is below 0, and nothing is added by it.
        DeadlineAdmission negative = with(task(10, 8, 2, 4, 0, 0));
        demands(negative, 1, task(1, 0), task(2, 2), task(3, 3), task(4, 4), task(5, 4), task(7, 4), task(8, 4), task(9, 4), task(11, 4), task(12, 6));
        // The scale 8 leaves G = 0.
        DeadlineAdmission without = with(task(5, 5, 3, 3, 0, 0));
        demands(without, 1, task(0, 0), task(1, 1), task(2, 2), task(3, 3), task(4, 3), task(5, 3), task(6, 4), task(8, 6), task(9, 6));
        DeadlineAdmission whole = with(task(5, 5, 5, 5, 0, 0));
        demands(whole, 1, task(0, 0), task(1, 1), task(4, 4), task(5, 5), task(6, 6), task(9, 9), task(199, 199), task(200, 200));
    }

    private static void demandOfSeveral() {
        sentence("the demand of a mode is the sum of the demands of all tasks");
        DeadlineAdmission x = eight();
        demands(x, 0, task(32, 0), task(33, 1), task(34, 2), task(39, 7), task(40, 8), task(72, 8), task(73, 9));
        // Both have V 5 and G 3.
        DeadlineAdmission two = with(task(8, 8, 1, 2, 0, 0), task(8, 8, 1, 2, 0, 0));
        demands(two, 0, task(4, 0), task(5, 2), task(12, 2), task(13, 4));
        demands(two, 1, task(2, 0), task(3, 2), task(4, 4), task(10, 4), task(11, 6), task(12, 8));
    }

    // Test

    private static void testFromOneToTwoHundred() {
        sentence("the demand is not greater than t for each t from 1 to 200: t = 1");
        DeadlineAdmission first = with(task(5, 1, 1, 0, 0, 0));
        proposed(first, -1, 5, 1, 1, 0, 0, 0);
        rejected(first, 0, 1, 2);
        sentence("the demand is not greater than t for each t from 1 to 200: t = 200");
        DeadlineAdmission last = with(task(28, 28, 22, 0, 0, 0));
        // For 196 it is 7 * 22 + 7 * 6 = 196; for 200 it is 7 * 22 + 8 * 6.
        proposed(last, -1, 25, 25, 6, 0, 0, 0);
        rejected(last, 0, 200, 202);
        sentence("the demand is not greater than t for each t from 1 to 200: t = 201 is not asked");
        // For 200 it is 5 * 6 + 5 * 34 = 200; for 201 it is 6 * 6 + 5 * 34.
        DeadlineAdmission beyond = with(task(35, 26, 6, 0, 0, 0), task(40, 40, 34, 0, 0, 0));
        due("demand(0, 200)", 200, () -> beyond.demand(0, 200));
        due("passes(0, 8)", true, () -> beyond.passes(0, 8));
        sentence("the demand is not greater than t: equal passes, one more fails");
        DeadlineAdmission equal = with(task(9, 9, 5, 0, 0, 0), task(9, 9, 4, 0, 0, 0));
        due("demand(0, 9)", 9, () -> equal.demand(0, 9));
        due("withdraw(1)", 1, () -> equal.withdraw(1));
        proposed(equal, -1, 9, 9, 5, 0, 0, 0);
        rejected(equal, 0, 9, 10);
    }

    private static void testOfTheHighMode() {
        sentence("the test of the high mode asks t = 200");
        DeadlineAdmission last = with(task(34, 34, 1, 19, 0, 0), task(7, 5, 1, 1, 0, 0));
        // At the scale 1 the third task leaves 113 + 28 + 60 = 201 for t = 200, and fails for no other t.
        proposed(last, -1, 39, 38, 2, 12, 0, 0);
        rejected(last, 1, 1, 31);
        proposed(last, 2, 39, 38, 2, 11, 0, 0);
        due("scale()", 1, () -> last.scale());
        sentence("the test of the high mode does not ask t = 201");
        // At the scale 1 it is 82 + 118 = 200 for t = 200, and 83 + 119 = 202 for t = 201.
        DeadlineAdmission beyond = with(task(29, 29, 2, 12, 0, 0), task(34, 34, 2, 20, 0, 0));
        due("scale()", 1, () -> beyond.scale());
        due("demand(1, 200)", 200, () -> beyond.demand(1, 200));
        due("slack(1)", 0, () -> beyond.slack(1));
        sentence("the test of the high mode asks t = 1");
        DeadlineAdmission first = with(task(8, 8, 1, 1, 0, 0));
        due("scale()", 8, () -> first.scale());
        proposed(first, 1, 8, 8, 1, 1, 0, 0);
        due("passes(1, 8), both demand 1 for t = 1", false, () -> first.passes(1, 8));
        due("scale()", 7, () -> first.scale());
    }

    // Proposals

    /** Seven tasks that need 2 units each of 40 at the service level 2, and one more at each lower level. */
    private static DeadlineAdmission seven(int importance) {
        DeadlineAdmission x = new DeadlineAdmission();
        for (int k = 0; k < 7; k++) {
            proposed(x, k, 8, 8, 1, 0, importance, 2);
        }
        return x;
    }

    private static void degradingSteps() {
        sentence("as soon as the configuration is admissible, the task is admitted: without a step");
        DeadlineAdmission none = seven(5);
        proposed(none, 7, 40, 8, 1, 0, 0, 2);
        levels(none, 0, 0, 0, 0, 0, 0, 0, 0);
        sentence("as soon as the configuration is admissible, the task is admitted: by the last step");
        DeadlineAdmission last = seven(5);
        proposed(last, 7, 40, 40, 26, 0, 0, 2);
        levels(last, 2, 2, 2, 2, 2, 2, 2, 2);
        due("demand(0, 40)", 40, () -> last.demand(0, 40));
        due("undo()", 5, () -> last.undo());
        levels(last, 0, 0, 0, 0, 0, 0, 0);
        sentence("as soon as the configuration is admissible, the task is admitted: by the last step but one");
        // One unit less leaves the level 1 for the last one taken: 6 * 2 + 3 + 25.
        DeadlineAdmission lastButOne = seven(5);
        proposed(lastButOne, 7, 40, 40, 25, 0, 0, 2);
        levels(lastButOne, 2, 2, 2, 2, 2, 2, 1, 2);
        sentence("if no step is possible any more, the task is rejected");
        DeadlineAdmission beyond = seven(5);
        due("simulate(1, 0, 16)", 0, () -> beyond.simulate(1, 0, 16));
        proposed(beyond, -1, 40, 40, 27, 0, 0, 2);
        rejected(beyond, 0, 40, 41);
        sentence("everything is as before the proposal");
        levels(beyond, 0, 0, 0, 0, 0, 0, 0);
        due("taskCount()", 7, () -> beyond.taskCount());
        due("scale()", 8, () -> beyond.scale());
        due("demand(0, 40)", 35, () -> beyond.demand(0, 40));
        results(beyond, 14, 0, 0, 2);
        due("undo() of the seventh admission", 5, () -> beyond.undo());
        due("taskCount()", 6, () -> beyond.taskCount());
        sentence("if no step is possible any more: with greatest levels of 0");
        DeadlineAdmission stiff = with(task(4, 4, 3, 0, 0, 0));
        proposed(stiff, -1, 4, 4, 2, 0, 0, 0);
        rejected(stiff, 0, 4, 5);
    }

    private static void degradingOrder() {
        sentence("the task with the lowest importance whose service level is less than the greatest one");
        // Each step of one of the four makes room for one unit more of 8; two units are needed.
        int[][] importances = {{0, 9, 9, 9}, {9, 9, 9, 0}, {1, 0, 9, 9}, {9, 1, 0, 9}, {3, 2, 1, 0}, {5, 5, 5, 5}, {9, 9, 9, 9}, {0, 0, 0, 0}};
        int[][] degraded = {{1, 1, 0, 0}, {1, 0, 0, 1}, {1, 1, 0, 0}, {0, 1, 1, 0}, {0, 0, 1, 1}, {1, 1, 0, 0}, {1, 1, 0, 0}, {1, 1, 0, 0}};
        for (int k = 0; k < importances.length; k++) {
            DeadlineAdmission x = new DeadlineAdmission();
            for (int number = 0; number < 4; number++) {
                proposed(x, number, 4, 4, 1, 0, importances[k][number], 1);
            }
            proposed(x, 4, 8, 8, 2, 0, 0, 0);
            levels(x, degraded[k]);
            due("level(4)", 0, () -> x.level(4));
        }
        sentence("a step increases a service level by 1, and the same task is taken until its greatest one");
        DeadlineAdmission twice = with(task(4, 4, 2, 0, 1, 2), task(4, 4, 2, 0, 1, 2), task(8, 8, 2, 0, 9, 0));
        levels(twice, 1, 0, 0);
        // For 8 is 2 + 4 + 4 = 10 with the first at 1 or 2; only the second one helps then.
        due("undo()", 2, () -> twice.undo());
        proposed(twice, 2, 8, 8, 4, 0, 9, 0);
        levels(twice, 2, 1, 0);
        sentence("the new task takes part in this");
        DeadlineAdmission own = with(task(4, 4, 2, 0, 5, 2), task(3, 3, 2, 0, 5, 2));
        // Equal importance: the lower number goes first, though the new one alone would do.
        levels(own, 1, 0);
        DeadlineAdmission lowest = with(task(4, 4, 2, 0, 5, 2), task(3, 3, 2, 0, 4, 2));
        levels(lowest, 0, 1);
    }

    private static void rejections() {
        sentence("the mode of a rejection is 0 if the test of the low mode fails, and 1 otherwise");
        DeadlineAdmission both = with(task(8, 8, 1, 8, 0, 0));
        proposed(both, -1, 8, 8, 8, 8, 0, 0);
        // The high mode fails for t = 1 already, but the low mode fails for 8.
        rejected(both, 0, 8, 9);
        proposed(both, -1, 8, 8, 7, 8, 0, 0);
        // Now the low mode passes with 8 for 8; in high mode it is 8 + 8 - 6 for t = 1.
        rejected(both, 1, 1, 10);
        sentence("the recorded rejection refers to the scale 8");
        due("scale()", 1, () -> both.scale());
        sentence("the recorded rejection refers to the last configuration that was tried");
        // At the service level 0 the low mode fails for 40; at 2 it passes, but no scale suits the new task.
        DeadlineAdmission degraded = with(task(4, 4, 4, 0, 0, 2));
        proposed(degraded, -1, 40, 40, 1, 40, 0, 0);
        rejected(degraded, 1, 1, 40);
        levels(degraded, 0);
    }

    // Descending test

    private static void descendingPoints() {
        sentence("the numbers V + k * P that are not greater than 200");
        points(new DeadlineAdmission());
        points(with(task(40, 40, 1, 0, 0, 0)), 200);
        // 1 + 5 * 40 is 201, and 5 + 5 * 39 is 200.
        points(with(task(40, 1, 1, 0, 0, 0)), 161, 5);
        points(with(task(39, 5, 1, 0, 0, 0)), 200, 6);
        // 11 + 5 * 38 is 201, whose demand 12 would lead on; 163 has the demand 10.
        points(with(task(38, 11, 2, 0, 0, 0)), 163);
        points(with(task(1, 1, 1, 0, 0, 0)), descending(200));
        sentence("the first point is the greatest of these numbers, of all tasks");
        points(with(task(40, 40, 1, 0, 0, 0), task(40, 39, 1, 0, 0, 0)), 200);
        points(with(task(40, 39, 1, 0, 0, 0), task(40, 38, 1, 0, 0, 0)), 199);
        points(with(task(40, 38, 1, 0, 0, 0), task(40, 39, 1, 0, 0, 0)), 199);
        sentence("with the present scale");
        // V is 7: 7 + 16 * 12 is 199, with the demand 34; for 34 it is 6.
        points(with(task(12, 12, 2, 6, 0, 0)), 199, 34);
        sentence("with the effective periods");
        DeadlineAdmission slower = with(task(40, 40, 1, 0, 0, 2));
        due("setLevel(0, 2)", 0, () -> slower.setLevel(0, 2));
        points(slower, 160);
    }

    private static int[] descending(int from) {
        int[] all = new int[from];
        for (int k = 0; k < from; k++) {
            all[k] = from - k;
        }
        return all;
    }

    private static void descendingSteps() {
        sentence("if the demand for a point is not greater than the least number, this point is the last one");
        points(with(task(40, 6, 1, 0, 0, 0)), 166);
        points(with(task(40, 5, 1, 0, 0, 0)), 165);
        points(with(task(40, 4, 1, 0, 0, 0)), 164, 5);
        sentence("the greatest of these numbers that is less than the point if the demand equals the point");
        points(with(task(40, 40, 40, 0, 0, 0)), 200, 160, 120, 80, 40);
        points(with(task(40, 1, 1, 0, 0, 0), task(40, 2, 1, 0, 0, 0)), 162, 10, 2, 1);
        // The third task has no number below 10.
        points(with(task(40, 5, 5, 0, 0, 0), task(40, 10, 5, 0, 0, 0), task(40, 30, 1, 0, 0, 0)), 190, 55, 21, 10, 5);
        sentence("the next point is the demand if it is less than the point");
        // The second one is degraded to the period 50; 199 and 159 are no numbers V + k * P.
        DeadlineAdmission x = with(task(40, 40, 39, 0, 0, 0), task(25, 25, 1, 0, 0, 1));
        due("period(1)", 50, () -> x.period(1));
        points(x, 200, 199, 160, 159, 120, 119, 80, 75, 41, 40, 25);
    }

    // Simulation

    private static void simulated(DeadlineAdmission x, int overrun, int horizon) {
        due("simulate(1, " + overrun + ", " + horizon + ")", 0, () -> x.simulate(1, overrun, horizon));
    }

    private static void responses(DeadlineAdmission x, Object... responses) {
        for (int k = 0; k < responses.length; k++) {
            int number = k;
            due("response(" + k + ")", responses[k], () -> x.response(number));
        }
        due("response of no task", INDEX, () -> x.response(responses.length));
    }

    private static void simulatedUnits() {
        sentence("a simulation covers the units from 0 to a horizon minus 1");
        DeadlineAdmission none = new DeadlineAdmission();
        for (int horizon : new int[] {1, 2, 199, 200}) {
            simulated(none, 100, horizon);
            results(none, 0, 0, 0, horizon);
        }
        sentence("all tasks release a job in unit 0 and then after each effective period");
        DeadlineAdmission x = with(task(5, 5, 1, 0, 0, 2));
        int[][] rows = {{1, 1, 0}, {5, 1, 4}, {6, 2, 4}, {10, 2, 8}, {11, 3, 8}, {196, 40, 156}, {200, 40, 160}};
        for (int[] row : rows) {
            simulated(x, 0, row[0]);
            results(x, row[1], 0, 0, row[2]);
            responses(x, 1);
        }
        due("setLevel(0, 2)", 0, () -> x.setLevel(0, 2));
        simulated(x, 0, 15);
        results(x, 1, 0, 0, 14);
        simulated(x, 0, 16);
        results(x, 2, 0, 0, 14);
        sentence("if it has run as long as its running time now, it is completed");
        DeadlineAdmission two = with(task(5, 5, 2, 0, 0, 0));
        simulated(two, 0, 1);
        results(two, 0, 0, 0, 0);
        responses(two, NONE);
        simulated(two, 0, 2);
        results(two, 1, 0, 0, 0);
        responses(two, 2);
    }

    private static void modeBecomesLow() {
        sentence("if no job is pending, the mode becomes low, before the releases of the unit");
        // The first one runs in unit 0, the critical one in the units 1 to 5; in unit 6 nothing is pending.
        DeadlineAdmission free = with(task(6, 6, 1, 0, 0, 0), task(12, 12, 2, 5, 0, 0));
        simulated(free, 100, 12);
        results(free, 3, 0, 1, 5);
        responses(free, 1, 6);
        simulated(free, 100, 24);
        results(free, 6, 0, 2, 10);
        sentence("in high mode a task that is not critical does not release its job, which counts as dropped");
        // One unit more: the critical job runs in unit 6 still.
        DeadlineAdmission busy = with(task(6, 6, 1, 0, 0, 0), task(12, 12, 2, 6, 0, 0));
        simulated(busy, 100, 6);
        results(busy, 1, 0, 1, 0);
        simulated(busy, 100, 7);
        results(busy, 2, 1, 1, 0);
        responses(busy, 1, 7);
        simulated(busy, 100, 12);
        results(busy, 2, 1, 1, 5);
        simulated(busy, 100, 24);
        results(busy, 4, 2, 2, 10);
        simulated(busy, 0, 12);
        results(busy, 3, 0, 0, 8);
    }

    private static void droppedBySwitch() {
        sentence("the mode becomes high, and all pending jobs of tasks that are not critical are dropped");
        DeadlineAdmission x = with(task(20, 20, 3, 0, 0, 0), task(20, 10, 1, 2, 0, 0), task(20, 20, 2, 0, 0, 0));
        simulated(x, 100, 1);
        results(x, 0, 2, 1, 0);
        simulated(x, 100, 20);
        results(x, 1, 2, 1, 18);
        responses(x, NONE, 2, NONE);
        sentence("pending jobs of critical tasks are not dropped");
        DeadlineAdmission critical = with(task(20, 10, 1, 3, 0, 0), task(20, 10, 1, 3, 0, 0), task(20, 20, 1, 0, 0, 0));
        simulated(critical, 100, 20);
        results(critical, 2, 1, 1, 14);
        responses(critical, 3, 6, NONE);
        sentence("a job that has run for a while is dropped too");
        // The first job of the critical task does not overrun, the second one does, in unit 10.
        DeadlineAdmission begun = with(task(30, 30, 12, 0, 0, 0), task(10, 10, 1, 2, 0, 0));
        int seed = seedFor(false, true);
        due("simulate", 0, () -> begun.simulate(seed, 50, 10));
        results(begun, 1, 0, 0, 0);
        due("simulate", 0, () -> begun.simulate(seed, 50, 11));
        results(begun, 1, 1, 1, 0);
        due("simulate", 0, () -> begun.simulate(seed, 50, 20));
        results(begun, 2, 1, 1, 8);
        responses(begun, NONE, 2);
    }

    private static void earliestDeadlineFirst() {
        sentence("the earliest effective deadline, its release plus V in low mode");
        // The critical task has D 10 and V 8.
        int[][] later = {{9, 3, 1}, {8, 2, 3}, {7, 2, 3}};
        for (int[] row : later) {
            DeadlineAdmission x = with(task(20, row[0], 2, 0, 0, 0), task(20, 10, 1, 2, 0, 0));
            due("virtualDeadline(1)", 8, () -> x.virtualDeadline(1));
            simulated(x, 0, 20);
            responses(x, row[1], row[2]);
        }
        sentence("of several the one of the task with the lowest number");
        int[][] sooner = {{9, 1, 3}, {8, 1, 3}, {7, 3, 2}};
        for (int[] row : sooner) {
            DeadlineAdmission x = with(task(20, 10, 1, 2, 0, 0), task(20, row[0], 2, 0, 0, 0));
            simulated(x, 0, 20);
            responses(x, row[1], row[2]);
        }
        sentence("its release plus D in high mode");
        // Both have V 2 at the scale 4: the first one runs and overruns, then the second one has the earlier D.
        DeadlineAdmission x = with(task(20, 5, 1, 3, 0, 0), task(20, 4, 1, 1, 0, 0));
        due("virtualDeadline(0)", 2, () -> x.virtualDeadline(0));
        due("virtualDeadline(1)", 2, () -> x.virtualDeadline(1));
        simulated(x, 100, 20);
        responses(x, 4, 2);
        simulated(x, 0, 20);
        responses(x, 1, 2);
        sentence("of several the one of the task with the lowest number, in high mode");
        DeadlineAdmission equal = with(task(20, 10, 1, 3, 0, 0), task(20, 10, 1, 3, 0, 0));
        simulated(equal, 100, 20);
        responses(equal, 3, 6);
    }

    private static void modeBecomesHigh() {
        sentence("if the mode is low and it is a job of a critical task that has run CL units, the mode becomes high");
        DeadlineAdmission x = with(task(20, 13, 5, 13, 0, 0));
        simulated(x, 100, 4);
        results(x, 0, 0, 0, 0);
        simulated(x, 100, 5);
        results(x, 0, 0, 1, 0);
        simulated(x, 100, 12);
        results(x, 0, 0, 1, 0);
        simulated(x, 100, 13);
        results(x, 1, 0, 1, 0);
        sentence("a job that is completed by CL units makes no switch");
        DeadlineAdmission equal = with(task(5, 5, 2, 2, 0, 0), task(5, 5, 1, 0, 0, 0));
        simulated(equal, 100, 200);
        results(equal, 80, 0, 0, 80);
        simulated(x, 0, 200);
        results(x, 10, 0, 0, 150);
        sentence("a job of a task that is not critical makes no switch");
        DeadlineAdmission other = with(task(5, 5, 3, 0, 0, 0));
        simulated(other, 100, 200);
        results(other, 40, 0, 0, 80);
    }

    private static int drawn(int seed, int draws) {
        int z = seed;
        for (int k = 0; k < draws; k++) {
            z = z * 1103515245 + 12345;
        }
        return (z >>> 16) % 100;
    }

    /** A seed whose first two draws overrun as wished with 50 percent. */
    private static int seedFor(boolean first, boolean second) {
        int seed = 0;
        while (drawn(seed, 1) < 50 != first || drawn(seed, 2) < 50 != second) {
            seed++;
        }
        return seed;
    }

    private static void draws() {
        sentence("the job overruns if (z >>> 16) % 100 is less than the overrun percentage");
        boolean[] seen = new boolean[100];
        DeadlineAdmission x = with(task(10, 8, 2, 4, 5, 0));
        for (int seed = -100; seed < 100; seed++) {
            overrunAtThePercentage(seed, seen);
        }
        for (int seed : new int[] {Integer.MIN_VALUE, Integer.MIN_VALUE + 1, Integer.MAX_VALUE, Integer.MAX_VALUE - 1}) {
            overrunAtThePercentage(seed, seen);
        }
        for (int seed = 1000; !seen[0] || !seen[99]; seed++) {
            if (drawn(seed, 1) == 0 || drawn(seed, 1) == 99) {
                overrunAtThePercentage(seed, seen);
            }
        }
        sentence("the draws go on from one released job to the next, with int overflow");
        for (int seed : new int[] {0, 7, -7, Integer.MIN_VALUE, Integer.MAX_VALUE}) {
            int overruns = 0;
            for (int job = 1; job <= 20; job++) {
                overruns += drawn(seed, job) < 50 ? 1 : 0;
            }
            due("simulate", 0, () -> x.simulate(seed, 50, 200));
            results(x, 20, 0, overruns, 160 - 2 * overruns);
        }
    }

    private static void overrunAtThePercentage(int seed, boolean[] seen) {
        int percentage = drawn(seed, 1);
        seen[percentage] = true;
        DeadlineAdmission x = with(task(10, 8, 2, 4, 5, 0));
        due("simulate of seed " + seed, 0, () -> x.simulate(seed, percentage, 10));
        results(x, 1, 0, 0, 8);
        due("simulate of seed " + seed, 0, () -> x.simulate(seed, percentage + 1, 10));
        results(x, 1, 0, 1, 6);
        due("simulate of seed " + seed, 0, () -> x.simulate(seed, 0, 10));
        results(x, 1, 0, 0, 8);
        due("simulate of seed " + seed, 0, () -> x.simulate(seed, 100, 10));
        results(x, 1, 0, 1, 6);
    }

    private static void drawsInOrder() {
        sentence("one draw for each released job of a critical task in the order of the releases");
        DeadlineAdmission x = with(task(20, 10, 1, 3, 0, 0), task(20, 10, 1, 3, 0, 0));
        due("simulate", 0, () -> x.simulate(seedFor(true, false), 50, 20));
        responses(x, 3, 4);
        due("simulate", 0, () -> x.simulate(seedFor(false, true), 50, 20));
        responses(x, 1, 4);
        due("simulate", 0, () -> x.simulate(seedFor(true, true), 50, 20));
        responses(x, 3, 6);
        due("simulate", 0, () -> x.simulate(seedFor(false, false), 50, 20));
        responses(x, 1, 2);
        sentence("no draw for a job of another task");
        DeadlineAdmission other = with(task(40, 40, 1, 0, 0, 0), task(20, 10, 1, 3, 0, 0), task(40, 40, 1, 0, 0, 0), task(20, 10, 1, 3, 0, 0));
        due("simulate", 0, () -> other.simulate(seedFor(true, false), 50, 20));
        responses(other, NONE, 3, NONE, 4);
        due("simulate", 0, () -> other.simulate(seedFor(false, true), 50, 20));
        responses(other, NONE, 1, NONE, 4);
    }

    /** An admissible configuration has no late job; OverloadTest has those that the face can't reach. */
    private static void noLateJobs() {
        sentence("a job that is completed within D units is not late, and later ones than the horizon are not judged");
        DeadlineAdmission whole = with(task(5, 5, 5, 0, 0, 0));
        DeadlineAdmission high = with(task(20, 13, 5, 13, 0, 0));
        for (int horizon = 1; horizon <= 200; horizon++) {
            simulated(whole, 0, horizon);
            simulated(high, 100, horizon);
        }
        simulated(whole, 0, 5);
        responses(whole, 5);
        simulated(high, 100, 13);
        responses(high, 13);
    }

    // Task texts

    private static void fault(String text, int fault) {
        DeadlineAdmission x = new DeadlineAdmission();
        type(x, text);
        due("proposeText() of " + text, ARGUMENT, () -> x.proposeText());
        due("faultPosition() of " + text, fault, () -> x.faultPosition());
        due("the new length of the emptied text", 1, () -> x.appendCharacter('1'));
    }

    private static void texts() {
        sentence("a text of at most 30 characters, which is empty at first");
        DeadlineAdmission x = new DeadlineAdmission();
        type(x, "123456789012345678901234567890");
        due("a character more", STATE, () -> x.appendCharacter('1'));
        due("proposeText()", ARGUMENT, () -> x.proposeText());
        due("faultPosition()", 2, () -> x.faultPosition());
        type(x, "123456789012345678901234567890");
        sentence("the fault position is the length of the text if the text ends too early");
        // 12 is no importance, so a text without a fault is out of range, too.
        String right = "12,34,56,78,12,34";
        for (int length = 0; length < 16; length++) {
            fault(right.substring(0, length), length);
        }
        fault(right.substring(0, 16), -1);
        fault(right, -1);
        sentence("the fault position is the index of the first character that cannot continue a task text");
        for (int position = 0; position < 17; position++) {
            String before = right.substring(0, position);
            String after = right.substring(position + 1);
            for (char character : new char[] {'!', '+', '-', '.', '/', ':', 'A', 'x', '~'}) {
                fault(before + character + after, position);
                fault(before + character, position);
            }
            boolean first = position % 3 == 0;
            boolean comma = position % 3 == 2;
            fault(before + (comma ? '0' : ',') + after, first || comma || position == 16 ? position : position + 1);
        }
        sentence("six numbers of 1 or 2 digits");
        fault("1,2,3,4,5,6,", 11);
        fault("1,2,3,4,5,67,", 12);
        fault("1,2,3,4,5,678", 12);
        fault("1,2,3,4,5,67x", 12);
        fault("001,2,3,4,5,6", 2);
        fault("12,34,56,78,12,34,", 17);
        fault("12,34,56,78,12,345", 17);
        fault("12,34,56,78,12,34x12,34,56,78,", 17);
        DeadlineAdmission zeros = new DeadlineAdmission();
        type(zeros, "09,08,01,00,00,02");
        due("proposeText()", 0, () -> zeros.proposeText());
        due("period(0)", 9, () -> zeros.period(0));
        due("deadline(0)", 8, () -> zeros.deadline(0));
    }
}
