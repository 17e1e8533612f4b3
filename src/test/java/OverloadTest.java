import java.lang.reflect.Field;

/**
 * Sentences of the document that show in an overloaded configuration only: late jobs, several pending jobs of one task,
 * and a demand that is greater than its point.
 *
 * The face keeps to admissible configurations, and those have none of these. So this test alone reaches into the object
 * and makes budgets greater than the admitted ones: it knows the private rows current.lowBudget and current.highBudget.
 */
public final class OverloadTest extends Checks {
    public static void main(String[] args) throws ReflectiveOperationException {
        overloaded();
        completedInTime();
        droppedJobs();
        demandBeyondThePoint();
        bitsFromTwoOn();
        finish("overloaded configurations are judged as the document says");
    }

    private static void setBudget(DeadlineAdmission x, String row, int task, int budget) throws ReflectiveOperationException {
        Field current = DeadlineAdmission.class.getDeclaredField("current");
        current.setAccessible(true);
        Object configuration = current.get(x);
        Field budgets = configuration.getClass().getDeclaredField(row);
        budgets.setAccessible(true);
        ((int[]) budgets.get(configuration))[task] = budget;
    }

    private static void late(DeadlineAdmission x, int overrun, int horizon, int late) {
        due("simulate(1, " + overrun + ", " + horizon + ")", late, () -> x.simulate(1, overrun, horizon));
    }

    /** The first job of the second task runs in the units 2 to 5, its second job in 8 and 9 and then on. */
    private static void overloaded() throws ReflectiveOperationException {
        DeadlineAdmission x = with(task(5, 5, 2, 0, 0, 0), task(5, 5, 2, 0, 0, 0));
        setBudget(x, "lowBudget", 1, 4);
        sentence("only jobs whose release plus D is not greater than the horizon are judged");
        late(x, 0, 4, 0);
        late(x, 0, 5, 1);
        sentence("a job is late if it is completed one unit after D");
        late(x, 0, 6, 1);
        due("completed()", 2, () -> x.completed());
        due("response(1)", 6, () -> x.response(1));
        sentence("a job that is pending at the end is late if its release plus D is not greater than the horizon");
        late(x, 0, 9, 1);
        late(x, 0, 10, 2);
        due("completed()", 3, () -> x.completed());
        sentence("of the jobs of one task the one that was released first runs");
        late(x, 0, 12, 2);
        due("response(1), of the second job", 7, () -> x.response(1));
        sentence("each pending job of a task is judged by its own release");
        // The first job runs in the units 2 to 4 and 5 to 10; behind it the jobs of unit 5 wait.
        setBudget(x, "lowBudget", 1, 9);
        late(x, 0, 9, 1);
        late(x, 0, 10, 3);
    }

    private static void completedInTime() throws ReflectiveOperationException {
        sentence("a job is not late if it is completed within D units");
        DeadlineAdmission x = with(task(5, 5, 2, 0, 0, 0), task(5, 5, 2, 0, 0, 0));
        setBudget(x, "lowBudget", 1, 3);
        late(x, 0, 5, 0);
        due("response(1)", 5, () -> x.response(1));
        late(x, 0, 200, 0);
    }

    /** The critical job runs for 12 units first, to the end of the other's 12 units, and the other one is dropped then. */
    private static void droppedJobs() throws ReflectiveOperationException {
        DeadlineAdmission x = with(task(20, 4, 1, 2, 0, 0), task(20, 12, 2, 0, 0, 0));
        setBudget(x, "lowBudget", 0, 12);
        setBudget(x, "highBudget", 0, 13);
        sentence("a job is late if it is not dropped and not completed within D units");
        late(x, 100, 20, 1);
        due("dropped()", 1, () -> x.dropped());
        late(x, 100, 12, 1);
        due("dropped()", 1, () -> x.dropped());
        late(x, 100, 11, 1);
        due("dropped()", 0, () -> x.dropped());
        late(x, 0, 20, 2);
        due("dropped()", 0, () -> x.dropped());
        late(x, 0, 11, 1);
        late(x, 0, 12, 2);
        late(x, 0, 3, 0);
        late(x, 0, 4, 1);
    }

    private static void demandBeyondThePoint() throws ReflectiveOperationException {
        sentence("if the demand for a point is greater than the point, this point is the last one");
        DeadlineAdmission x = with(task(40, 40, 40, 0, 0, 0));
        points(x, 200, 160, 120, 80, 40);
        setBudget(x, "lowBudget", 0, 41);
        points(x, 200);
        // Behind the change 57 has the demand 2 * 28 + 1 and leads to 50, which has the same.
        DeadlineAdmission later = with(task(40, 10, 10, 0, 0, 0), task(40, 30, 1, 0, 0, 0));
        points(later, 190, 55, 21);
        setBudget(later, "lowBudget", 0, 28);
        points(later, 190, 145, 115, 87, 58, 57, 50);
    }

    private static void bitsFromTwoOn() throws ReflectiveOperationException {
        sentence("the bits of a number that is 2 or greater");
        DeadlineAdmission x = with(task(40, 40, 1, 0, 0, 0));
        for (int budget : new int[] {79, 80, 81, 159, 160, 161, 1000}) {
            setBudget(x, "lowBudget", 0, budget);
            due("utilizationBits(0)", Double.doubleToLongBits(budget / 40.0), () -> x.utilizationBits(0));
            due("loadBits(0)", Float.floatToIntBits(budget / 40.0f), () -> x.loadBits(0));
        }
    }
}
