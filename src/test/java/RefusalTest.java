import java.util.function.Function;

/**
 * "A call that throws an exception leaves the state unchanged, except for the text and its fault position as
 * described", and "they are checked in the order in which they are listed".
 *
 * Each refused call is made on one of two objects that were made alike. Afterwards both are asked for all that the
 * face can show, and must answer alike. No object gets more than the 512 calls that the document allows.
 */
public final class RefusalTest extends Checks {
    private static final int[] INTERVALS = {0, 6, 12, 40, 199, 200};
    private static final int[] WRONG_MODES = {-1, 2, Integer.MIN_VALUE, Integer.MAX_VALUE};
    private static final String HALF_TYPED = "12,3";
    private static final String THIRTY = "1,2,3,4,5,6,7,8,9,0,1,2,3,4,5,";

    private interface Call {
        Object on(DeadlineAdmission x);
    }

    private interface Probe {
        String of(DeadlineAdmission x);
    }

    public static void main(String[] args) {
        sentence("a call that throws an exception leaves the state unchanged");
        refusalsWithoutTasks();
        refusalsOfNumbers();
        refusalsOfIndexes();
        refusalsOfModes();
        refusalsOfChanges();
        refusalsWithEightTasks();
        refusalsOfResults();
        refusalsOfCharacters();
        sentence("except for the text and its fault position as described");
        refusedTexts();
        sentence("exceptions are checked in the order in which they are listed");
        order();
        finish("refused calls leave the state as it was");
    }

    // Settings: the text is what stands typed at the end

    private static DeadlineAdmission bare(String text) {
        DeadlineAdmission x = new DeadlineAdmission();
        type(x, text);
        return x;
    }

    /** Two tasks, six changes to take back, three tasks saved, a rejection, a simulation, and the fault position 1. */
    private static DeadlineAdmission rich(String text) {
        DeadlineAdmission x = mixed();
        proposed(x, 2, 40, 30, 2, 0, 7, 1);
        x.save();
        due("setLevel(1, 1)", 0, () -> x.setLevel(1, 1));
        due("withdraw(2)", 2, () -> x.withdraw(2));
        due("setLevel(1, 2)", 1, () -> x.setLevel(1, 2));
        due("upgrade()", 2, () -> x.upgrade());
        due("setLevel(1, 1)", 0, () -> x.setLevel(1, 1));
        type(x, "7x");
        due("proposeText()", ARGUMENT, () -> x.proposeText());
        proposed(x, -1, 1, 1, 1, 0, 9, 0);
        due("simulate(7, 100, 60)", 0, () -> x.simulate(7, 100, 60));
        type(x, text);
        return x;
    }

    /** Like rich, but with as many tasks as there can be. */
    private static DeadlineAdmission full(String text) {
        DeadlineAdmission x = rich("");
        for (int k = 2; k < 8; k++) {
            proposed(x, k, 40, 40 - k, 1, 0, k, 1);
        }
        due("simulate(3, 50, 90)", 0, () -> x.simulate(3, 50, 90));
        type(x, text);
        return x;
    }

    /** Two tasks that leave no room, one of them degraded. */
    private static DeadlineAdmission tight(String text) {
        DeadlineAdmission x = with(task(4, 4, 2, 0, 3, 1), task(4, 4, 2, 0, 1, 2), task(8, 8, 2, 0, 2, 0));
        due("simulate(1, 0, 30)", 0, () -> x.simulate(1, 0, 30));
        type(x, text);
        return x;
    }

    // What the face shows

    private static String seen(DeadlineAdmission x) {
        StringBuilder all = new StringBuilder(configuration(x));
        for (int k = -1; k <= x.taskCount(); k++) {
            int n = k;
            all.append("task ").append(n).append(": ").append(answer(() -> x.deadline(n))).append(' ')
                .append(answer(() -> x.virtualDeadline(n))).append(' ').append(answer(() -> x.budget(n, 0))).append(' ')
                .append(answer(() -> x.budget(n, 1))).append(' ').append(answer(() -> x.response(n))).append('\n');
        }
        for (int m = 0; m <= 1; m++) {
            int mode = m;
            for (int t : INTERVALS) {
                all.append("demand ").append(mode).append(' ').append(t).append(": ").append(x.demand(mode, t)).append('\n');
            }
            all.append("mode ").append(mode).append(": ").append(x.slack(mode)).append(' ').append(x.tightest(mode)).append(' ')
                .append(x.utilizationBits(mode)).append(' ').append(x.loadBits(mode)).append('\n');
        }
        all.append("scales ").append(x.feasibleScales()).append('\n');
        all.append("descent ").append(x.descentLength()).append(' ').append(answer(() -> x.descentPoint(0))).append('\n');
        all.append("rejection ").append(answer(() -> x.rejectionMode())).append(' ').append(answer(() -> x.rejectionLength()))
            .append(' ').append(answer(() -> x.rejectionDemand())).append('\n');
        all.append("results ").append(answer(() -> x.completed())).append(' ').append(answer(() -> x.dropped())).append(' ')
            .append(answer(() -> x.switches())).append(' ').append(answer(() -> x.idleUnits())).append('\n');
        return all.toString();
    }

    private static String configuration(DeadlineAdmission x) {
        StringBuilder all = new StringBuilder();
        all.append("tasks ").append(x.taskCount()).append(" scale ").append(x.scale());
        for (int k = 0; k < x.taskCount(); k++) {
            all.append(" / ").append(x.period(k)).append(' ').append(x.level(k));
        }
        return all.append('\n').toString();
    }

    private static String undone(DeadlineAdmission x) {
        StringBuilder all = new StringBuilder();
        String left = "";
        for (int k = 0; k < 8 && !left.equals(STATE); k++) {
            left = answer(() -> x.undo());
            all.append("undo ").append(left).append(": ").append(configuration(x));
        }
        return all.toString();
    }

    private static String restored(DeadlineAdmission x) {
        return "restore " + answer(() -> x.restore()) + ": " + configuration(x);
    }

    /** Greatest levels and importances show only in what later calls do. */
    private static String ranks(DeadlineAdmission x) {
        StringBuilder all = new StringBuilder();
        for (int k = 0; k < x.taskCount(); k++) {
            int number = k;
            all.append("setLevel ").append(answer(() -> x.setLevel(number, 2))).append(' ')
                .append(answer(() -> x.setLevel(number, 1))).append('\n');
        }
        all.append("upgrade ").append(x.upgrade()).append(": ").append(configuration(x));
        for (int k = 36; k > 0; k -= 5) {
            int budget = k;
            all.append("propose ").append(answer(() -> x.propose(40, 40, budget, 0, 9, 0))).append(": ").append(configuration(x));
        }
        return all.toString();
    }

    private static String typed(DeadlineAdmission x) {
        return "append " + answer(() -> x.appendCharacter('5')) + ", propose " + answer(() -> x.proposeText())
            + ", fault " + x.faultPosition() + ": " + configuration(x);
    }

    private static String difference(String want, String got) {
        String[] wanted = want.split("\n");
        String[] found = got.split("\n");
        for (int k = 0; k < Math.min(wanted.length, found.length); k++) {
            if (!wanted[k].equals(found[k])) {
                return "[" + found[k] + "] in place of [" + wanted[k] + "]";
            }
        }
        return wanted.length == found.length ? "the same" : "another number of rows";
    }

    private static void alike(String call, String exception, DeadlineAdmission refused, DeadlineAdmission untouched, Call wrong, Probe probe) {
        due(call, exception, () -> wrong.on(refused));
        due("what is seen behind " + call, "the same", () -> difference(probe.of(untouched), probe.of(refused)));
    }

    private static void refused(Function<String, DeadlineAdmission> setting, String text, String call, String exception, Call wrong) {
        Probe[] probes = {x -> "fault " + x.faultPosition() + '\n' + seen(x), x -> typed(x), x -> undone(x) + restored(x), x -> restored(x) + undone(x), x -> ranks(x)};
        for (Probe probe : probes) {
            alike(call, exception, setting.apply(text), setting.apply(text), wrong, probe);
        }
    }

    // Refused calls

    private static void refusalsWithoutTasks() {
        Function<String, DeadlineAdmission> bare = RefusalTest::bare;
        refused(bare, HALF_TYPED, "undo() of none", STATE, x -> x.undo());
        refused(bare, HALF_TYPED, "restore() of nothing", STATE, x -> x.restore());
        refused(bare, HALF_TYPED, "withdraw(0) of none", INDEX, x -> x.withdraw(0));
        refused(bare, HALF_TYPED, "setLevel(0, 0) of none", INDEX, x -> x.setLevel(0, 0));
        refused(bare, HALF_TYPED, "period(0) of none", INDEX, x -> x.period(0));
        refused(bare, HALF_TYPED, "descentPoint(0) of none", INDEX, x -> x.descentPoint(0));
        refused(bare, HALF_TYPED, "rejectionMode() of none", NONE, x -> x.rejectionMode());
        refused(bare, HALF_TYPED, "rejectionLength() of none", NONE, x -> x.rejectionLength());
        refused(bare, HALF_TYPED, "rejectionDemand() of none", NONE, x -> x.rejectionDemand());
        refused(bare, HALF_TYPED, "completed() of none", STATE, x -> x.completed());
        refused(bare, HALF_TYPED, "propose(0, 1, 1, 0, 0, 0)", ARGUMENT, x -> x.propose(0, 1, 1, 0, 0, 0));
    }

    private static void refusalsOfNumbers() {
        int[][] bad = {{0, 1, 1, 0, 0, 0}, {41, 1, 1, 0, 0, 0}, {9, 0, 1, 0, 0, 0}, {9, 10, 1, 0, 0, 0}, {9, 9, 0, 0, 0, 0},
            {9, 8, 9, 0, 0, 0}, {9, 8, 3, 2, 0, 0}, {9, 8, 3, 9, 0, 0}, {9, 9, 1, -1, 0, 0}, {9, 9, 1, 0, -1, 0}, {9, 9, 1, 0, 10, 0},
            {9, 9, 1, 0, 0, -1}, {9, 9, 1, 0, 0, 3}, {9, 9, 1, 1, 0, 1}};
        for (int[] n : bad) {
            refused(RefusalTest::rich, HALF_TYPED, "propose of " + java.util.Arrays.toString(n), ARGUMENT,
                x -> x.propose(n[0], n[1], n[2], n[3], n[4], n[5]));
        }
        int[][] simulations = {{1, -1, 10}, {1, 101, 10}, {1, 50, 0}, {1, 50, 201}, {1, -1, 0}};
        for (int[] n : simulations) {
            refused(RefusalTest::rich, HALF_TYPED, "simulate of " + java.util.Arrays.toString(n), ARGUMENT, x -> x.simulate(n[0], n[1], n[2]));
        }
        for (int number : new int[] {-1, 201}) {
            refused(RefusalTest::rich, HALF_TYPED, "demand(0, " + number + ")", ARGUMENT, x -> x.demand(0, number));
            refused(RefusalTest::rich, HALF_TYPED, "demand(1, " + number + ")", ARGUMENT, x -> x.demand(1, number));
        }
        for (int number : new int[] {0, 9}) {
            refused(RefusalTest::rich, HALF_TYPED, "passes(0, " + number + ")", ARGUMENT, x -> x.passes(0, number));
            refused(RefusalTest::rich, HALF_TYPED, "passes(1, " + number + ")", ARGUMENT, x -> x.passes(1, number));
        }
    }

    private static void refusalsOfIndexes() {
        for (int number : new int[] {-1, 2, Integer.MIN_VALUE, Integer.MAX_VALUE}) {
            Function<String, DeadlineAdmission> rich = RefusalTest::rich;
            refused(rich, HALF_TYPED, "withdraw(" + number + ")", INDEX, x -> x.withdraw(number));
            refused(rich, HALF_TYPED, "setLevel(" + number + ", 0)", INDEX, x -> x.setLevel(number, 0));
            refused(rich, HALF_TYPED, "period(" + number + ")", INDEX, x -> x.period(number));
            refused(rich, HALF_TYPED, "deadline(" + number + ")", INDEX, x -> x.deadline(number));
            refused(rich, HALF_TYPED, "virtualDeadline(" + number + ")", INDEX, x -> x.virtualDeadline(number));
            refused(rich, HALF_TYPED, "budget(" + number + ", 0)", INDEX, x -> x.budget(number, 0));
            refused(rich, HALF_TYPED, "level(" + number + ")", INDEX, x -> x.level(number));
            refused(rich, HALF_TYPED, "isCritical(" + number + ")", INDEX, x -> x.isCritical(number));
            refused(rich, HALF_TYPED, "response(" + number + ")", INDEX, x -> x.response(number));
        }
        for (int index : new int[] {-1, 5, Integer.MIN_VALUE, Integer.MAX_VALUE}) {
            refused(x -> mixed(), "", "descentPoint(" + index + ")", INDEX, x -> x.descentPoint(index));
        }
    }

    private static void refusalsOfModes() {
        for (int mode : WRONG_MODES) {
            Function<String, DeadlineAdmission> rich = RefusalTest::rich;
            refused(rich, HALF_TYPED, "budget(0, " + mode + ")", ARGUMENT, x -> x.budget(0, mode));
            refused(rich, HALF_TYPED, "demand(" + mode + ", 5)", ARGUMENT, x -> x.demand(mode, 5));
            refused(rich, HALF_TYPED, "slack(" + mode + ")", ARGUMENT, x -> x.slack(mode));
            refused(rich, HALF_TYPED, "tightest(" + mode + ")", ARGUMENT, x -> x.tightest(mode));
            refused(rich, HALF_TYPED, "passes(" + mode + ", 8)", ARGUMENT, x -> x.passes(mode, 8));
            refused(rich, HALF_TYPED, "utilization(" + mode + ")", ARGUMENT, x -> x.utilization(mode));
            refused(rich, HALF_TYPED, "utilizationBits(" + mode + ")", ARGUMENT, x -> x.utilizationBits(mode));
            refused(rich, HALF_TYPED, "load(" + mode + ")", ARGUMENT, x -> x.load(mode));
            refused(rich, HALF_TYPED, "loadBits(" + mode + ")", ARGUMENT, x -> x.loadBits(mode));
        }
        refused(RefusalTest::rich, HALF_TYPED, "budget(1, 1)", UNSUPPORTED, x -> x.budget(1, 1));
    }

    private static void refusalsOfChanges() {
        for (int level : new int[] {-1, 3}) {
            refused(RefusalTest::rich, HALF_TYPED, "setLevel(1, " + level + ")", ARGUMENT, x -> x.setLevel(1, level));
        }
        refused(RefusalTest::rich, HALF_TYPED, "setLevel(0, 1) of a critical task", ARGUMENT, x -> x.setLevel(0, 1));
        refused(RefusalTest::tight, HALF_TYPED, "setLevel(1, 0)", STATE, x -> x.setLevel(1, 0));
        refused(RefusalTest::tight, HALF_TYPED, "restore() of nothing", STATE, x -> x.restore());
        refused(x -> allTakenBack(), "", "undo() of none any more", STATE, x -> x.undo());
    }

    private static DeadlineAdmission allTakenBack() {
        DeadlineAdmission x = rich(HALF_TYPED);
        for (int left = 5; left >= 0; left--) {
            due("undo()", left, () -> x.undo());
        }
        due("simulate(2, 50, 70)", 0, () -> x.simulate(2, 50, 70));
        return x;
    }

    private static void refusalsWithEightTasks() {
        Function<String, DeadlineAdmission> full = RefusalTest::full;
        refused(full, HALF_TYPED, "a ninth task", STATE, x -> x.propose(40, 40, 1, 0, 0, 0));
        refused(full, HALF_TYPED, "a ninth task that would be rejected", STATE, x -> x.propose(1, 1, 1, 0, 0, 0));
        refused(full, HALF_TYPED, "a ninth task that is out of range", ARGUMENT, x -> x.propose(0, 1, 1, 0, 0, 0));
        refused(full, HALF_TYPED, "withdraw(8)", INDEX, x -> x.withdraw(8));
        refused(full, HALF_TYPED, "setLevel(8, 0)", INDEX, x -> x.setLevel(8, 0));
        refused(full, HALF_TYPED, "response(8)", INDEX, x -> x.response(8));
    }

    private static DeadlineAdmission changedSinceSimulation() {
        DeadlineAdmission x = rich(HALF_TYPED);
        due("upgrade()", 1, () -> x.upgrade());
        return x;
    }

    private static DeadlineAdmission oneUnitSimulated() {
        DeadlineAdmission x = rich(HALF_TYPED);
        due("simulate(1, 0, 1)", 0, () -> x.simulate(1, 0, 1));
        return x;
    }

    private static void refusalsOfResults() {
        Function<String, DeadlineAdmission> changed = text -> changedSinceSimulation();
        refused(changed, "", "completed()", STATE, x -> x.completed());
        refused(changed, "", "dropped()", STATE, x -> x.dropped());
        refused(changed, "", "switches()", STATE, x -> x.switches());
        refused(changed, "", "idleUnits()", STATE, x -> x.idleUnits());
        refused(changed, "", "response(0)", STATE, x -> x.response(0));
        refused(text -> oneUnitSimulated(), "", "response(1)", NONE, x -> x.response(1));
    }

    private static void refusalsOfCharacters() {
        for (int character : new int[] {32, 127, -1, 0, 256 + 48, 65536 + 48, Integer.MIN_VALUE, Integer.MAX_VALUE}) {
            refused(RefusalTest::rich, HALF_TYPED, "appendCharacter(" + character + ")", ARGUMENT, x -> x.appendCharacter(character));
        }
        refused(RefusalTest::rich, THIRTY, "appendCharacter(48) to 30", STATE, x -> x.appendCharacter(48));
        refused(RefusalTest::rich, THIRTY, "appendCharacter(32) to 30", ARGUMENT, x -> x.appendCharacter(32));
        refused(RefusalTest::bare, THIRTY, "appendCharacter(48) to 30", STATE, x -> x.appendCharacter(48));
    }

    // proposeText changes the text and its fault position, and nothing else

    private static void refusedText(Function<String, DeadlineAdmission> setting, String text, String exception, int fault) {
        DeadlineAdmission read = setting.apply(text);
        due("proposeText() of " + text, exception, () -> read.proposeText());
        due("faultPosition() of " + text, fault, () -> read.faultPosition());
        due("appendCharacter to the emptied text", 1, () -> read.appendCharacter('5'));
        due("faultPosition() while typing", fault, () -> read.faultPosition());
        Probe[] probes = {x -> seen(x), x -> undone(x) + restored(x), x -> restored(x) + undone(x), x -> ranks(x), x -> typed(x)};
        for (Probe probe : probes) {
            alike("proposeText() of " + text, exception, setting.apply(text), setting.apply(""), x -> x.proposeText(), probe);
        }
    }

    private static void refusedTexts() {
        for (Function<String, DeadlineAdmission> setting : java.util.List.<Function<String, DeadlineAdmission>>of(
                RefusalTest::bare, RefusalTest::rich, RefusalTest::full)) {
            refusedText(setting, "", ARGUMENT, 0);
            refusedText(setting, HALF_TYPED, ARGUMENT, 4);
            refusedText(setting, "9,9,1,0,0,0,", ARGUMENT, 11);
            refusedText(setting, THIRTY, ARGUMENT, 11);
            refusedText(setting, "41,40,1,0,0,0", ARGUMENT, -1);
            refusedText(setting, "40,40,1,0,10,0", ARGUMENT, -1);
        }
        refusedText(RefusalTest::full, "40,40,1,0,0,0", STATE, -1);
    }

    private static void order() {
        due("a ninth task, out of range", ARGUMENT, () -> eight().propose(40, 40, 1, 0, 0, 3));
        DeadlineAdmission faulty = eight();
        type(faulty, "40,40,1,0,0");
        due("a ninth task by a text with a fault", ARGUMENT, () -> faulty.proposeText());
        type(faulty, "40,40,1,0,0,3");
        due("a ninth task by a text, out of range", ARGUMENT, () -> faulty.proposeText());
        type(faulty, "40,40,1,0,0,2");
        due("a ninth task by a right text", STATE, () -> faulty.proposeText());
        DeadlineAdmission typed = bare(THIRTY);
        due("appendCharacter(127) to 30", ARGUMENT, () -> typed.appendCharacter(127));
        due("appendCharacter(126) to 30", STATE, () -> typed.appendCharacter(126));
        DeadlineAdmission x = tight("");
        due("setLevel of no task and no level", INDEX, () -> x.setLevel(3, 3));
        due("setLevel of no level", ARGUMENT, () -> x.setLevel(1, -1));
        due("setLevel of a level without room", STATE, () -> x.setLevel(1, 0));
        due("budget of no task and no mode", INDEX, () -> x.budget(3, 2));
        due("budget of no task, high", INDEX, () -> x.budget(-1, 1));
        due("budget of no mode, not critical", ARGUMENT, () -> x.budget(0, 2));
        due("budget, high, not critical", UNSUPPORTED, () -> x.budget(0, 1));
        DeadlineAdmission unsimulated = mixed();
        due("response of no task, no simulation", INDEX, () -> unsimulated.response(2));
        due("response, no simulation", STATE, () -> unsimulated.response(1));
        due("simulate(1, 0, 1)", 0, () -> unsimulated.simulate(1, 0, 1));
        due("response of no task, nothing completed", INDEX, () -> unsimulated.response(2));
        due("response, nothing completed", NONE, () -> unsimulated.response(1));
        due("upgrade()", 0, () -> unsimulated.upgrade());
        due("response, nothing completed in a forgotten simulation", STATE, () -> unsimulated.response(1));
    }
}
