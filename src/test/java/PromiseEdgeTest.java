import java.util.ArrayList;
import java.util.List;

/** The boundary cases under each promise's own heading: bounds, what is answered where there is nothing, every refusal. */
public final class PromiseEdgeTest extends Checks {
    private static final int[] NO_MODES = {-1, 2, Integer.MIN_VALUE, Integer.MAX_VALUE};

    private interface Change {
        Object on(DeadlineAdmission x);
    }

    public static void main(String[] args) {
        newObject();
        propose();
        proposeText();
        appendCharacter();
        faultPosition();
        withdraw();
        upgradeOfNothing();
        upgrade();
        setLevel();
        undoCountsChanges();
        undoCountsNothingElse();
        undoForgets();
        taskCountAndScale();
        indexes();
        modes();
        budget();
        demand();
        slackAndTightest();
        passesAndScales();
        utilizationAndLoad();
        descent();
        rejection();
        simulate();
        resultsForgotten();
        resultsKept();
        response();
        save();
        restore();
        manyCalls();
        finish("the promises' boundary cases hold");
    }

    private static void newObject() {
        promise(1);
        DeadlineAdmission other = eight();
        other.save();
        type(other, "12");
        due("simulate(1, 0, 10)", 0, () -> other.simulate(1, 0, 10));
        DeadlineAdmission x = new DeadlineAdmission();
        due("taskCount()", 0, () -> x.taskCount());
        due("scale()", 8, () -> x.scale());
        due("faultPosition()", -1, () -> x.faultPosition());
        due("undo()", STATE, () -> x.undo());
        due("restore()", STATE, () -> x.restore());
        due("period(0)", INDEX, () -> x.period(0));
        due("descentLength()", 0, () -> x.descentLength());
        due("the first character", 1, () -> x.appendCharacter('1'));
        rejected(x, NONE, NONE, NONE);
        results(x, STATE, STATE, STATE, STATE);
        due("response(0)", INDEX, () -> x.response(0));
        for (int mode = 0; mode <= 1; mode++) {
            int m = mode;
            due("demand(" + m + ", 0)", 0, () -> x.demand(m, 0));
            due("demand(" + m + ", 200)", 0, () -> x.demand(m, 200));
            due("slack(" + m + ")", 1, () -> x.slack(m));
            due("tightest(" + m + ")", 1, () -> x.tightest(m));
            due("utilization(" + m + ")", 0.0, () -> x.utilization(m));
            due("utilizationBits(" + m + ")", 0L, () -> x.utilizationBits(m));
            due("load(" + m + ")", 0.0f, () -> x.load(m));
            due("loadBits(" + m + ")", 0, () -> x.loadBits(m));
            due("passes(" + m + ", 1)", true, () -> x.passes(m, 1));
            due("passes(" + m + ", 8)", true, () -> x.passes(m, 8));
        }
        due("feasibleScales()", 510, () -> x.feasibleScales());
        due("taskCount() of the other object", 8, () -> other.taskCount());
    }

    private static void propose() {
        promise(2);
        DeadlineAdmission least = with(task(1, 1, 1, 1, 0, 0));
        due("period(0)", 1, () -> least.period(0));
        due("budget(0, 1)", 1, () -> least.budget(0, 1));
        DeadlineAdmission greatest = with(task(40, 40, 40, 40, 9, 0));
        due("period(0)", 40, () -> greatest.period(0));
        due("budget(0, 1)", 40, () -> greatest.budget(0, 1));
        DeadlineAdmission x = new DeadlineAdmission();
        for (int k = 0; k < 7; k++) {
            proposed(x, k, 40, 40, 1, 0, 0, 0);
        }
        sentence("promise 2, with 7 tasks: rejected, then admitted as the eighth");
        proposed(x, -1, 1, 1, 1, 0, 0, 0);
        due("taskCount()", 7, () -> x.taskCount());
        rejected(x, 0, 40, 47);
        proposed(x, 7, 40, 40, 1, 0, 0, 0);
        sentence("promise 2, with 8 tasks: refused, not rejected");
        proposed(x, STATE, 1, 1, 1, 0, 0, 2);
        rejected(x, 0, 40, 47);
        due("taskCount()", 8, () -> x.taskCount());
    }

    private static void proposeText() {
        promise(3);
        DeadlineAdmission x = new DeadlineAdmission();
        textRead(x, "40,30,05,7,9,0", 0, -1);
        due("period(0)", 40, () -> x.period(0));
        due("deadline(0)", 30, () -> x.deadline(0));
        due("budget(0, 0)", 5, () -> x.budget(0, 0));
        due("budget(0, 1)", 7, () -> x.budget(0, 1));
        textRead(x, "20,19,1,0,9,2", 1, -1);
        due("setLevel(1, 2)", 0, () -> x.setLevel(1, 2));
        due("setLevel(1, 3)", ARGUMENT, () -> x.setLevel(1, 3));
        textRead(x, "1,1,1,0,0,0", -1, -1);
        due("taskCount() behind the rejection", 2, () -> x.taskCount());
        String[] outOfRange = {"0,1,1,0,0,0", "41,1,1,0,0,0", "5,0,1,0,0,0", "5,6,1,0,0,0", "5,5,0,0,0,0", "5,4,5,0,0,0", "5,5,3,2,0,0",
            "5,4,3,5,0,0", "5,5,1,0,10,0", "5,5,1,0,0,3", "5,5,1,1,0,1", "0,0,0,0,0,0", "99,99,99,99,99,99"};
        for (String text : outOfRange) {
            textRead(x, text, ARGUMENT, -1);
        }
        textRead(x, "", ARGUMENT, 0);
        textRead(x, "20,19,1,0,9", ARGUMENT, 11);
        due("taskCount() behind the refusals", 2, () -> x.taskCount());
        due("undo() behind the refusals", 2, () -> x.undo());
        sentence("promise 3, a text with a fault proposes nothing that an earlier text had");
        textRead(x, "20,19,1,0,9,2", 2, -1);
        textRead(x, "", ARGUMENT, 0);
        textRead(x, ",", ARGUMENT, 0);
        textRead(x, "2", ARGUMENT, 1);
        textRead(x, "20,19,1,0,9,2,", ARGUMENT, 13);
        due("taskCount() behind the faults", 3, () -> x.taskCount());
        promise(3);
        DeadlineAdmission full = eight();
        textRead(full, "40,40,1,0,0,0", STATE, -1);
        textRead(full, "40,40,1,0,0,0,", ARGUMENT, 13);
        due("taskCount()", 8, () -> full.taskCount());
        sentence("promise 3, importance read from the text");
        // The important one is proposed first: the number alone would degrade it.
        DeadlineAdmission ranks = new DeadlineAdmission();
        textRead(ranks, "4,4,2,0,9,1", 0, -1);
        textRead(ranks, "4,4,2,0,0,1", 1, -1);
        textRead(ranks, "8,8,2,0,9,0", 2, -1);
        levels(ranks, 0, 1, 0);
    }

    /** type and proposeText, by which the text is emptied whatever the answer is. */
    private static void textRead(DeadlineAdmission x, String text, Object want, int fault) {
        type(x, text);
        due("proposeText() of " + text, want, () -> x.proposeText());
        due("faultPosition() of " + text, fault, () -> x.faultPosition());
    }

    private static void appendCharacter() {
        promise(4);
        for (int character = 33; character <= 126; character++) {
            int code = character;
            due("appendCharacter(" + code + ")", 1, () -> new DeadlineAdmission().appendCharacter(code));
        }
        DeadlineAdmission x = new DeadlineAdmission();
        for (int length = 0; length < 30; length++) {
            for (int code : new int[] {32, 127, 0, -1, 128, 255, 304, 65569, Integer.MIN_VALUE, Integer.MAX_VALUE}) {
                due("appendCharacter(" + code + ")", ARGUMENT, () -> x.appendCharacter(code));
            }
            due("appendCharacter(33)", length + 1, () -> x.appendCharacter(33));
        }
        due("appendCharacter(33) to 30", STATE, () -> x.appendCharacter(33));
        due("appendCharacter(126) to 30", STATE, () -> x.appendCharacter(126));
        due("appendCharacter(32) to 30", ARGUMENT, () -> x.appendCharacter(32));
        due("appendCharacter(127) to 30", ARGUMENT, () -> x.appendCharacter(127));
        due("proposeText()", ARGUMENT, () -> x.proposeText());
        due("appendCharacter(33) to the emptied text", 1, () -> x.appendCharacter(33));
    }

    private static void faultPosition() {
        promise(5);
        DeadlineAdmission x = new DeadlineAdmission();
        due("faultPosition() without a reading", -1, () -> x.faultPosition());
        type(x, "x");
        due("faultPosition() before the reading", -1, () -> x.faultPosition());
        due("proposeText()", ARGUMENT, () -> x.proposeText());
        due("faultPosition() of x", 0, () -> x.faultPosition());
        sentence("promise 5, the latest call of proposeText and no other call");
        proposed(x, 0, 40, 40, 1, 0, 0, 2);
        proposed(x, -1, 1, 1, 1, 0, 0, 0);
        x.save();
        due("upgrade()", 0, () -> x.upgrade());
        due("restore()", 1, () -> x.restore());
        due("undo()", 2, () -> x.undo());
        due("simulate(1, 0, 10)", 0, () -> x.simulate(1, 0, 10));
        due("withdraw(0)", 0, () -> x.withdraw(0));
        due("faultPosition() of x still", 0, () -> x.faultPosition());
        textRead(x, "1,2,", ARGUMENT, 4);
        textRead(x, "1,1,1,0,0,0", 0, -1);
        textRead(x, "1,2,", ARGUMENT, 4);
        textRead(x, "1,2,1,0,0,0", ARGUMENT, -1);
        textRead(x, "1,2,", ARGUMENT, 4);
        textRead(x, "1,1,1,0,0,0", -1, -1);
    }

    private static void withdraw() {
        promise(6);
        DeadlineAdmission x = eight();
        for (int number : new int[] {-1, 8, 9, Integer.MIN_VALUE, Integer.MAX_VALUE}) {
            due("withdraw(" + number + ")", INDEX, () -> x.withdraw(number));
        }
        due("taskCount()", 8, () -> x.taskCount());
        due("setLevel(6, 2)", 0, () -> x.setLevel(6, 2));
        due("setLevel(1, 1)", 0, () -> x.setLevel(1, 1));
        sentence("promise 6, the last task");
        due("withdraw(7)", 7, () -> x.withdraw(7));
        levels(x, 0, 1, 0, 0, 0, 0, 2);
        due("withdraw(7) again", INDEX, () -> x.withdraw(7));
        sentence("promise 6, the first task");
        due("withdraw(0)", 6, () -> x.withdraw(0));
        levels(x, 1, 0, 0, 0, 0, 2);
        due("deadline(0)", 39, () -> x.deadline(0));
        due("deadline(5)", 34, () -> x.deadline(5));
        due("deadline(6)", INDEX, () -> x.deadline(6));
        sentence("promise 6, a task between others");
        due("withdraw(3)", 5, () -> x.withdraw(3));
        levels(x, 1, 0, 0, 0, 2);
        due("deadline(2)", 37, () -> x.deadline(2));
        due("deadline(3)", 35, () -> x.deadline(3));
        for (int left = 4; left >= 0; left--) {
            int remain = left;
            due("withdraw(0)", remain, () -> x.withdraw(0));
        }
        sentence("promise 6, no tasks");
        due("withdraw(0)", INDEX, () -> x.withdraw(0));
        due("withdraw(-1)", INDEX, () -> x.withdraw(-1));
        sentence("promise 6, the scale becomes the greatest one");
        DeadlineAdmission scaled = with(task(8, 8, 1, 3, 0, 0), task(8, 8, 1, 2, 0, 0), task(40, 40, 1, 0, 0, 0));
        due("scale()", 4, () -> scaled.scale());
        due("withdraw(2) of a task that is not critical", 2, () -> scaled.withdraw(2));
        due("scale()", 4, () -> scaled.scale());
        due("withdraw(0)", 1, () -> scaled.withdraw(0));
        due("scale()", 7, () -> scaled.scale());
        due("virtualDeadline(0)", 7, () -> scaled.virtualDeadline(0));
        due("withdraw(0)", 0, () -> scaled.withdraw(0));
        due("scale()", 8, () -> scaled.scale());
    }

    private static void upgradeOfNothing() {
        sentence("promise 7, no tasks");
        DeadlineAdmission none = new DeadlineAdmission();
        due("upgrade()", 0, () -> none.upgrade());
        due("scale()", 8, () -> none.scale());
        due("undo()", 0, () -> none.undo());
        sentence("promise 7, all service levels are 0");
        DeadlineAdmission x = mixed();
        due("upgrade()", 0, () -> x.upgrade());
        levels(x, 0, 0);
        due("scale()", 6, () -> x.scale());
        // There would be room for more service than the level 0 has.
        DeadlineAdmission roomy = with(task(40, 40, 1, 0, 0, 2));
        due("upgrade()", 0, () -> roomy.upgrade());
        levels(roomy, 0);
        due("setLevel(0, 2)", 0, () -> roomy.setLevel(0, 2));
        due("upgrade()", 2, () -> roomy.upgrade());
        levels(roomy, 0);
        due("period(0)", 40, () -> roomy.period(0));
    }

    private static void upgrade() {
        sentence("promise 7, as often as the configuration stays admissible: once of twice");
        // For 8 it is 2 + 5 at the level 1, and 4 + 5 at the level 0.
        DeadlineAdmission once = with(task(4, 4, 2, 0, 0, 2), task(8, 8, 5, 0, 9, 0));
        levels(once, 1, 0);
        due("setLevel(0, 2)", 1, () -> once.setLevel(0, 2));
        due("upgrade()", 1, () -> once.upgrade());
        levels(once, 1, 0);
        due("upgrade() again", 0, () -> once.upgrade());
        levels(once, 1, 0);
        sentence("promise 7, as often as the configuration stays admissible: twice");
        DeadlineAdmission twice = with(task(4, 4, 2, 0, 0, 2), task(8, 8, 4, 0, 9, 0));
        due("setLevel(0, 2)", 0, () -> twice.setLevel(0, 2));
        due("upgrade()", 2, () -> twice.upgrade());
        levels(twice, 0, 0);
        sentence("promise 7, the next task is taken where one can't be raised");
        DeadlineAdmission skip = with(task(4, 4, 2, 0, 9, 1), task(20, 20, 1, 0, 1, 1), task(8, 8, 5, 0, 9, 0));
        levels(skip, 1, 1, 0);
        due("upgrade()", 1, () -> skip.upgrade());
        levels(skip, 1, 0, 0);
        sentence("promise 7, by descending importance, then by number");
        // Two of the four can be raised; a fifth task holds the rest.
        int[][] importances = {{0, 9, 1, 8}, {9, 8, 0, 0}, {0, 0, 0, 0}, {9, 9, 9, 9}, {0, 0, 0, 1}, {1, 2, 3, 4}};
        int[][] raised = {{1, 0, 1, 0}, {0, 0, 1, 1}, {0, 0, 1, 1}, {0, 0, 1, 1}, {0, 1, 1, 0}, {1, 1, 0, 0}};
        for (int k = 0; k < importances.length; k++) {
            DeadlineAdmission x = new DeadlineAdmission();
            for (int number = 0; number < 4; number++) {
                proposed(x, number, 4, 4, 1, 0, importances[k][number], 1);
            }
            proposed(x, 4, 8, 8, 2, 0, 5, 0);
            for (int number = 0; number < 4; number++) {
                int n = number;
                due("setLevel(" + n + ", 1)", x.level(n), () -> x.setLevel(n, 1));
            }
            due("upgrade()", 2, () -> x.upgrade());
            levels(x, raised[k]);
        }
    }

    private static void setLevel() {
        promise(8);
        DeadlineAdmission x = with(task(40, 40, 1, 0, 0, 0), task(40, 40, 1, 0, 0, 1), task(40, 40, 1, 0, 0, 2), task(40, 40, 1, 2, 0, 0));
        for (int task = 0; task < 4; task++) {
            int number = task;
            int greatest = task == 3 ? 0 : task;
            for (int level = 0; level <= greatest; level++) {
                int l = level;
                due("setLevel(" + number + ", " + l + ")", Math.max(0, l - 1), () -> x.setLevel(number, l));
                due("level(" + number + ")", l, () -> x.level(number));
                due("setLevel(" + number + ", " + l + ") again", l, () -> x.setLevel(number, l));
            }
            for (int level : new int[] {-1, greatest + 1, 3, Integer.MIN_VALUE, Integer.MAX_VALUE}) {
                due("setLevel(" + number + ", " + level + ")", ARGUMENT, () -> x.setLevel(number, level));
            }
            due("level(" + number + ") behind the refusals", greatest, () -> x.level(number));
        }
        for (int number : new int[] {-1, 4, Integer.MIN_VALUE, Integer.MAX_VALUE}) {
            due("setLevel(" + number + ", 0)", INDEX, () -> x.setLevel(number, 0));
        }
        due("setLevel(0, 0) of none", INDEX, () -> new DeadlineAdmission().setLevel(0, 0));
        sentence("promise 8, the configuration would not be admissible");
        DeadlineAdmission tight = with(task(4, 4, 2, 0, 0, 2), task(8, 8, 5, 0, 9, 0));
        due("setLevel(0, 2)", 1, () -> tight.setLevel(0, 2));
        due("setLevel(0, 0), 9 for 8", STATE, () -> tight.setLevel(0, 0));
        levels(tight, 2, 0);
        due("setLevel(0, 1), 7 for 8", 2, () -> tight.setLevel(0, 1));
        due("setLevel(0, 0) from the next level", STATE, () -> tight.setLevel(0, 0));
        levels(tight, 1, 0);
        due("undo() of the successful call", 3, () -> tight.undo());
        levels(tight, 2, 0);
    }

    // undo

    /** mixed with one more task, the second task at the level 1, and all three saved; four changes. */
    private static DeadlineAdmission changed() {
        DeadlineAdmission x = mixed();
        proposed(x, 2, 40, 30, 1, 0, 7, 1);
        due("setLevel(1, 1)", 0, () -> x.setLevel(1, 1));
        x.save();
        return x;
    }

    private static String shown(DeadlineAdmission x) {
        StringBuilder all = new StringBuilder().append(x.taskCount()).append(" tasks, scale ").append(x.scale());
        for (int k = 0; k < x.taskCount(); k++) {
            all.append(", ").append(x.deadline(k)).append(' ').append(x.period(k)).append(' ').append(x.level(k));
        }
        return all.toString();
    }

    private static void countsAsChange(String call, Object want, Change change) {
        DeadlineAdmission x = changed();
        String before = shown(x);
        due(call, want, () -> change.on(x));
        due("undo() of " + call, 4, () -> x.undo());
        due("what undo() of " + call + " leaves", before, () -> shown(x));
        due("undo() of setLevel before it", 3, () -> x.undo());
        levels(x, 0, 0, 0);
    }

    private static void undoCountsChanges() {
        sentence("promise 9, an admission, or a successful call of withdraw, upgrade, setLevel or restore");
        countsAsChange("propose", 3, x -> x.propose(40, 40, 1, 0, 0, 0));
        countsAsChange("propose that lowers the scale", 3, x -> x.propose(40, 40, 1, 9, 0, 0));
        countsAsChange("proposeText", 3, x -> {
            type(x, "40,40,1,0,0,0");
            return x.proposeText();
        });
        countsAsChange("withdraw of the first task", 2, x -> x.withdraw(0));
        countsAsChange("withdraw of the last task", 2, x -> x.withdraw(2));
        countsAsChange("upgrade", 1, x -> x.upgrade());
        countsAsChange("setLevel", 1, x -> x.setLevel(1, 2));
        sentence("promise 9, also if nothing changed by it");
        countsAsChange("setLevel to the same level", 1, x -> x.setLevel(1, 1));
        countsAsChange("setLevel of a critical task", 0, x -> x.setLevel(0, 0));
        countsAsChange("restore of the same", 3, x -> x.restore());
        DeadlineAdmission upgraded = mixed();
        due("upgrade() of nothing", 0, () -> upgraded.upgrade());
        due("undo() of it", 2, () -> upgraded.undo());
        due("taskCount()", 2, () -> upgraded.taskCount());
        due("undo() of the admission", 1, () -> upgraded.undo());
        due("taskCount()", 1, () -> upgraded.taskCount());
    }

    private static void countsAsNone(String call, Object want, Change noChange) {
        DeadlineAdmission x = changed();
        due(call, want, () -> noChange.on(x));
        due("undo() behind " + call, 3, () -> x.undo());
        levels(x, 0, 0, 0);
    }

    private static void undoCountsNothingElse() {
        sentence("promise 9, no change to take back");
        DeadlineAdmission x = mixed();
        due("undo()", 1, () -> x.undo());
        due("undo()", 0, () -> x.undo());
        due("undo()", STATE, () -> x.undo());
        due("taskCount()", 0, () -> x.taskCount());
        proposed(x, 0, 40, 40, 1, 0, 0, 0);
        due("undo() behind a new change", 0, () -> x.undo());
        due("undo()", STATE, () -> x.undo());
        sentence("promise 9, other calls are no changes");
        countsAsNone("a rejected proposal", -1, y -> y.propose(1, 1, 1, 0, 9, 0));
        countsAsNone("a proposal out of range", ARGUMENT, y -> y.propose(0, 1, 1, 0, 9, 0));
        countsAsNone("a text with a fault", ARGUMENT, y -> y.proposeText());
        countsAsNone("a character", 1, y -> y.appendCharacter('1'));
        countsAsNone("withdraw of no task", INDEX, y -> y.withdraw(3));
        countsAsNone("setLevel of no task", INDEX, y -> y.setLevel(3, 0));
        countsAsNone("setLevel of no level", ARGUMENT, y -> y.setLevel(0, 1));
        countsAsNone("simulate", 0, y -> y.simulate(1, 50, 100));
        countsAsNone("save", "saved", y -> {
            y.save();
            return "saved";
        });
        countsAsNone("passes", true, y -> y.passes(0, 8));
        DeadlineAdmission tight = with(task(4, 4, 2, 0, 0, 2), task(8, 8, 5, 0, 9, 0));
        due("setLevel(0, 0)", STATE, () -> tight.setLevel(0, 0));
        due("restore() of nothing", STATE, () -> tight.restore());
        due("undo() of the admission", 1, () -> tight.undo());
    }

    private static void undoForgets() {
        sentence("promise 9, at most 6 changes can be taken back");
        for (int changes = 1; changes <= 8; changes++) {
            DeadlineAdmission x = new DeadlineAdmission();
            for (int k = 0; k < changes; k++) {
                proposed(x, k, 40, 40 - k, 1, 0, 0, 0);
            }
            int most = Math.min(changes, 6);
            for (int left = most - 1; left >= 0; left--) {
                int remain = left;
                due("undo()", remain, () -> x.undo());
            }
            due("undo() behind the last", STATE, () -> x.undo());
            due("taskCount()", changes - most, () -> x.taskCount());
        }
        sentence("promise 9, at most 6 changes, with some taken back in between");
        DeadlineAdmission x = eight();
        due("undo()", 5, () -> x.undo());
        due("undo()", 4, () -> x.undo());
        due("setLevel(0, 1)", 0, () -> x.setLevel(0, 1));
        due("setLevel(0, 2)", 1, () -> x.setLevel(0, 2));
        due("setLevel(0, 0)", 2, () -> x.setLevel(0, 0));
        int[] levels = {2, 1, 0, 0, 0, 0};
        int[] counts = {6, 6, 6, 5, 4, 3};
        for (int k = 0; k < 6; k++) {
            int number = k;
            due("undo()", 5 - number, () -> x.undo());
            due("level(0)", levels[number], () -> x.level(0));
            due("taskCount()", counts[number], () -> x.taskCount());
        }
        due("undo() of a forgotten change", STATE, () -> x.undo());
        sentence("promise 9, a change that was taken back is not taken back again");
        DeadlineAdmission levelled = with(task(40, 40, 1, 0, 0, 2));
        due("setLevel(0, 1)", 0, () -> levelled.setLevel(0, 1));
        due("undo()", 1, () -> levelled.undo());
        due("setLevel(0, 2)", 0, () -> levelled.setLevel(0, 2));
        due("undo()", 1, () -> levelled.undo());
        due("level(0)", 0, () -> levelled.level(0));
        due("undo()", 0, () -> levelled.undo());
        due("taskCount()", 0, () -> levelled.taskCount());
    }

    // What the tasks are

    private static void taskCountAndScale() {
        promise(10);
        DeadlineAdmission x = new DeadlineAdmission();
        for (int k = 0; k < 8; k++) {
            due("taskCount()", k, () -> x.taskCount());
            proposed(x, k, 40, 40, 1, 0, 0, 0);
        }
        due("taskCount()", 8, () -> x.taskCount());
        promise(11);
        due("scale()", 8, () -> x.scale());
        due("scale()", 1, () -> with(task(8, 8, 1, 8, 0, 0)).scale());
    }

    private static void indexes() {
        DeadlineAdmission x = eight();
        due("simulate(1, 0, 200)", 0, () -> x.simulate(1, 0, 200));
        for (int k = 0; k < 8; k++) {
            indexed(x, k, true);
        }
        for (int wrong : new int[] {-1, 8, Integer.MIN_VALUE, Integer.MAX_VALUE}) {
            indexed(x, wrong, false);
            indexed(new DeadlineAdmission(), wrong, false);
        }
        indexed(new DeadlineAdmission(), 0, false);
        DeadlineAdmission withdrawn = eight();
        due("withdraw(0)", 7, () -> withdrawn.withdraw(0));
        due("simulate(1, 0, 200)", 0, () -> withdrawn.simulate(1, 0, 200));
        sentence("no task behind the last one that remains");
        indexed(withdrawn, 7, false);
    }

    private static void indexed(DeadlineAdmission x, int number, boolean there) {
        promise(12);
        due("period(" + number + ")", there ? 40 : INDEX, () -> x.period(number));
        promise(13);
        due("deadline(" + number + ")", there ? 40 - number : INDEX, () -> x.deadline(number));
        promise(14);
        due("virtualDeadline(" + number + ")", there ? 40 - number : INDEX, () -> x.virtualDeadline(number));
        promise(15);
        due("budget(" + number + ", 0)", there ? 1 : INDEX, () -> x.budget(number, 0));
        due("budget(" + number + ", 1)", there ? UNSUPPORTED : INDEX, () -> x.budget(number, 1));
        promise(16);
        due("level(" + number + ")", there ? 0 : INDEX, () -> x.level(number));
        promise(17);
        due("isCritical(" + number + ")", there ? false : INDEX, () -> x.isCritical(number));
        promise(37);
        due("response(" + number + ")", there ? 8 - number : INDEX, () -> x.response(number));
    }

    private static void modes() {
        sentence("the mode is not 0 or 1");
        for (DeadlineAdmission x : new DeadlineAdmission[] {new DeadlineAdmission(), mixed()}) {
            for (int mode : NO_MODES) {
                due("demand(" + mode + ", 5)", ARGUMENT, () -> x.demand(mode, 5));
                due("slack(" + mode + ")", ARGUMENT, () -> x.slack(mode));
                due("tightest(" + mode + ")", ARGUMENT, () -> x.tightest(mode));
                due("passes(" + mode + ", 8)", ARGUMENT, () -> x.passes(mode, 8));
                due("utilization(" + mode + ")", ARGUMENT, () -> x.utilization(mode));
                due("utilizationBits(" + mode + ")", ARGUMENT, () -> x.utilizationBits(mode));
                due("load(" + mode + ")", ARGUMENT, () -> x.load(mode));
                due("loadBits(" + mode + ")", ARGUMENT, () -> x.loadBits(mode));
            }
        }
    }

    private static void budget() {
        promise(15);
        DeadlineAdmission x = with(task(20, 20, 1, 1, 0, 0), task(20, 20, 3, 0, 0, 0));
        due("budget(0, 0)", 1, () -> x.budget(0, 0));
        due("budget(0, 1)", 1, () -> x.budget(0, 1));
        due("budget(1, 0)", 3, () -> x.budget(1, 0));
        due("budget(1, 1)", UNSUPPORTED, () -> x.budget(1, 1));
        for (int mode : NO_MODES) {
            due("budget(0, " + mode + ")", ARGUMENT, () -> x.budget(0, mode));
            due("budget(1, " + mode + ")", ARGUMENT, () -> x.budget(1, mode));
            due("budget(2, " + mode + ")", INDEX, () -> x.budget(2, mode));
        }
    }

    private static void demand() {
        promise(18);
        DeadlineAdmission x = mixed();
        for (int mode = 0; mode <= 1; mode++) {
            int m = mode;
            due("demand(" + m + ", 0)", 0, () -> x.demand(m, 0));
            due("demand(" + m + ", 200)", m == 0 ? 88 : 80, () -> x.demand(m, 200));
            for (int t : new int[] {-1, 201, Integer.MIN_VALUE, Integer.MAX_VALUE}) {
                due("demand(" + m + ", " + t + ")", ARGUMENT, () -> x.demand(m, t));
                due("demand(" + m + ", " + t + ") of none", ARGUMENT, () -> new DeadlineAdmission().demand(m, t));
            }
        }
        due("demand(2, 201)", ARGUMENT, () -> x.demand(2, 201));
    }

    private static void slackAndTightest() {
        sentence("promises 19 and 20, t = 1");
        tight(with(task(1, 1, 1, 0, 0, 0)), 0, 0, 1);
        tight(with(task(40, 1, 1, 0, 0, 0)), 0, 0, 1);
        tight(with(task(40, 2, 1, 0, 0, 0)), 0, 1, 1);
        tight(with(task(40, 2, 2, 0, 0, 0)), 0, 0, 2);
        sentence("promises 19 and 20, t = 200");
        DeadlineAdmission last = with(task(40, 40, 24, 0, 0, 0), task(35, 35, 7, 0, 0, 0), task(34, 29, 5, 0, 0, 0), task(35, 28, 3, 0, 0, 0));
        tight(last, 0, 0, 200);
        // The scale is 1, and for 200 it is 100 + 45 + 55.
        DeadlineAdmission lastHigh = with(task(20, 20, 2, 10, 0, 0), task(40, 40, 1, 9, 0, 0), task(29, 29, 1, 8, 0, 0));
        tight(lastHigh, 1, 0, 200);
        sentence("promises 19 and 20, the least of several t");
        // 6 + 34 for 40 and 30 + 170 for 200.
        tight(with(task(35, 26, 6, 0, 0, 0), task(40, 40, 34, 0, 0, 0)), 0, 0, 40);
        // 12 + 18 for 30 and 82 + 118 for 200.
        tight(with(task(29, 29, 2, 12, 0, 0), task(34, 34, 2, 20, 0, 0)), 1, 0, 30);
        tight(with(task(5, 5, 5, 0, 0, 0)), 0, 0, 5);
        // Slack 1 stands for t = 1 already, and for 5 again.
        tight(with(task(5, 5, 4, 0, 0, 0)), 0, 1, 1);
        tight(with(task(40, 8, 8, 0, 0, 0)), 0, 0, 8);
        sentence("promises 19 and 20, no critical tasks in high mode");
        tight(with(task(5, 5, 5, 0, 0, 0)), 1, 1, 1);
    }

    private static void tight(DeadlineAdmission x, int mode, int slack, int tightest) {
        due("slack(" + mode + ")", slack, () -> x.slack(mode));
        due("tightest(" + mode + ")", tightest, () -> x.tightest(mode));
    }

    private static void passesAndScales() {
        promise(21);
        DeadlineAdmission x = with(task(8, 8, 1, 4, 0, 0));
        for (int scale = 1; scale <= 8; scale++) {
            int other = scale;
            due("passes(0, " + other + ")", true, () -> x.passes(0, other));
            due("passes(1, " + other + ")", other <= 5, () -> x.passes(1, other));
        }
        for (int scale : new int[] {0, 9, -1, Integer.MIN_VALUE, Integer.MAX_VALUE}) {
            due("passes(0, " + scale + ")", ARGUMENT, () -> x.passes(0, scale));
            due("passes(1, " + scale + ")", ARGUMENT, () -> x.passes(1, scale));
            due("passes(2, " + scale + ")", ARGUMENT, () -> x.passes(2, scale));
        }
        due("scale() stays", 5, () -> x.scale());
        promise(22);
        due("feasibleScales() of none", 510, () -> new DeadlineAdmission().feasibleScales());
        due("feasibleScales() of all", 510, () -> with(task(8, 8, 1, 1, 0, 0)).feasibleScales());
        due("feasibleScales() of the least alone", 2, () -> with(task(8, 8, 1, 8, 0, 0)).feasibleScales());
        due("feasibleScales() without the least and the greatest", 60,
            () -> with(task(8, 8, 1, 2, 0, 0), task(8, 8, 1, 2, 0, 0)).feasibleScales());
    }

    private static void utilizationAndLoad() {
        sentence("promises 23 and 24, the least and the greatest of one task");
        utilization(with(task(40, 40, 1, 0, 0, 2)), 0, 1.0 / 40.0);
        DeadlineAdmission slow = with(task(40, 40, 1, 0, 0, 2));
        due("setLevel(0, 2)", 0, () -> slow.setLevel(0, 2));
        utilization(slow, 0, 1.0 / 120.0);
        utilization(with(task(1, 1, 1, 0, 0, 0)), 0, 1.0);
        utilization(with(task(1, 1, 1, 1, 0, 0)), 1, 1.0);
        utilization(with(task(35, 26, 6, 0, 0, 0), task(40, 40, 34, 0, 0, 0)), 0, 6.0 / 35.0 + 34.0 / 40.0);
        sentence("promises 23 and 24, in high mode only critical tasks are counted");
        utilization(with(task(1, 1, 1, 0, 0, 0)), 1, 0.0);
        utilization(mixed(), 1, 4.0 / 10.0);
        sentence("promises 23 and 24, in the order of their numbers");
        // With doubles the order of these three shows in the last bit.
        utilization(with(task(2, 2, 1, 0, 0, 0), task(3, 3, 1, 0, 0, 0), task(6, 6, 1, 0, 0, 0)), 0, 0.9999999999999999);
        utilization(with(task(6, 6, 1, 0, 0, 0), task(3, 3, 1, 0, 0, 0), task(2, 2, 1, 0, 0, 0)), 0, 1.0);
        sentence("promises 25 and 26, t = 1 and t = 200");
        load(with(task(40, 1, 1, 0, 0, 0)), 0, 1.0f);
        load(with(task(40, 3, 1, 0, 0, 0)), 0, 1.0f / 3.0f);
        load(with(task(40, 40, 24, 0, 0, 0), task(35, 35, 7, 0, 0, 0), task(34, 29, 5, 0, 0, 0), task(35, 28, 3, 0, 0, 0)), 0, 1.0f);
        load(with(task(20, 20, 2, 10, 0, 0), task(40, 40, 1, 9, 0, 0), task(29, 29, 1, 8, 0, 0)), 1, 1.0f);
        sentence("promises 25 and 26, no demand");
        load(with(task(1, 1, 1, 0, 0, 0)), 1, 0.0f);
        load(new DeadlineAdmission(), 0, 0.0f);
    }

    private static void utilization(DeadlineAdmission x, int mode, double want) {
        due("utilization(" + mode + ")", want, () -> x.utilization(mode));
        due("utilizationBits(" + mode + ")", Double.doubleToLongBits(want), () -> x.utilizationBits(mode));
    }

    private static void load(DeadlineAdmission x, int mode, float want) {
        due("load(" + mode + ")", want, () -> x.load(mode));
        due("loadBits(" + mode + ")", Float.floatToIntBits(want), () -> x.loadBits(mode));
    }

    private static void descent() {
        sentence("promises 27 and 28");
        DeadlineAdmission none = new DeadlineAdmission();
        due("descentLength() of none", 0, () -> none.descentLength());
        DeadlineAdmission all = with(task(1, 1, 1, 0, 0, 0));
        due("descentLength()", 200, () -> all.descentLength());
        due("descentPoint(0)", 200, () -> all.descentPoint(0));
        due("descentPoint(199)", 1, () -> all.descentPoint(199));
        for (int index : new int[] {-1, 200, 201, Integer.MIN_VALUE, Integer.MAX_VALUE}) {
            due("descentPoint(" + index + ")", INDEX, () -> all.descentPoint(index));
            due("descentPoint(" + index + ") of none", INDEX, () -> none.descentPoint(index));
        }
        due("descentPoint(0) of none", INDEX, () -> none.descentPoint(0));
        DeadlineAdmission one = with(task(40, 40, 1, 0, 0, 0));
        due("descentLength()", 1, () -> one.descentLength());
        due("descentPoint(0)", 200, () -> one.descentPoint(0));
        due("descentPoint(1)", INDEX, () -> one.descentPoint(1));
        due("withdraw(0)", 0, () -> one.withdraw(0));
        due("descentLength() of none any more", 0, () -> one.descentLength());
        due("descentPoint(0) of none any more", INDEX, () -> one.descentPoint(0));
    }

    private static void rejection() {
        sentence("promises 29 to 31, no task has been rejected");
        DeadlineAdmission x = with(task(9, 9, 9, 0, 0, 0));
        rejected(x, NONE, NONE, NONE);
        proposed(x, ARGUMENT, 0, 0, 0, 0, 0, 0);
        rejected(x, NONE, NONE, NONE);
        sentence("promises 29 to 31, the latest rejection");
        proposed(x, -1, 1, 1, 1, 0, 0, 0);
        rejected(x, 0, 9, 18);
        proposed(x, -1, 40, 40, 1, 40, 0, 0);
        // For 40 it is 36 + 1 and fits; for 45 it does not.
        rejected(x, 0, 45, 46);
        sentence("promises 29 to 31, what follows leaves the latest rejection");
        due("undo()", 0, () -> x.undo());
        proposed(x, 0, 40, 40, 1, 0, 0, 0);
        proposed(x, ARGUMENT, 0, 0, 0, 0, 0, 0);
        rejected(x, 0, 45, 46);
    }

    private static void simulate() {
        promise(32);
        DeadlineAdmission x = mixed();
        for (int wrong : new int[] {-1, 101, Integer.MIN_VALUE, Integer.MAX_VALUE}) {
            due("simulate(1, " + wrong + ", 10)", ARGUMENT, () -> x.simulate(1, wrong, 10));
        }
        for (int wrong : new int[] {0, 201, -1, Integer.MIN_VALUE, Integer.MAX_VALUE}) {
            due("simulate(1, 50, " + wrong + ")", ARGUMENT, () -> x.simulate(1, 50, wrong));
        }
        results(x, STATE, STATE, STATE, STATE);
        for (int seed : new int[] {0, -1, Integer.MIN_VALUE, Integer.MAX_VALUE}) {
            for (int overrun : new int[] {0, 100}) {
                for (int horizon : new int[] {1, 200}) {
                    due("simulate(" + seed + ", " + overrun + ", " + horizon + ")", 0, () -> x.simulate(seed, overrun, horizon));
                }
            }
        }
        sentence("promise 32, keeps its results in place of earlier ones");
        DeadlineAdmission kept = with(task(5, 5, 2, 3, 0, 0), task(5, 5, 1, 0, 0, 0));
        due("simulate(1, 100, 200)", 0, () -> kept.simulate(1, 100, 200));
        results(kept, 40, 40, 40, 80);
        due("response(0)", 3, () -> kept.response(0));
        due("simulate(1, 0, 1)", 0, () -> kept.simulate(1, 0, 1));
        results(kept, 0, 0, 0, 0);
        due("response(0)", NONE, () -> kept.response(0));
        due("simulate(1, 0, 5)", 0, () -> kept.simulate(1, 0, 5));
        results(kept, 2, 0, 0, 2);
        sentence("promise 32, a refused call keeps the earlier results");
        due("simulate(1, 101, 5)", ARGUMENT, () -> kept.simulate(1, 101, 5));
        due("simulate(1, 0, 201)", ARGUMENT, () -> kept.simulate(1, 0, 201));
        results(kept, 2, 0, 0, 2);
    }

    /** Two tasks with results; the second one can be slower, and what is now is saved. */
    private static DeadlineAdmission simulated() {
        DeadlineAdmission x = with(task(5, 5, 2, 0, 0, 2), task(10, 10, 1, 0, 0, 2));
        x.save();
        due("simulate(1, 0, 10)", 0, () -> x.simulate(1, 0, 10));
        results(x, 3, 0, 0, 5);
        due("response(1)", 3, () -> x.response(1));
        return x;
    }

    private static void forgotten(DeadlineAdmission x) {
        results(x, STATE, STATE, STATE, STATE);
        due("response(0)", STATE, () -> x.response(0));
    }

    private static void forgets(String call, Object want, Change change) {
        DeadlineAdmission x = simulated();
        due(call, want, () -> change.on(x));
        forgotten(x);
        due("simulate(1, 0, 2)", 0, () -> x.simulate(1, 0, 2));
        results(x, 1, 0, 0, 0);
        due("undo() of " + call, 2, () -> x.undo());
        forgotten(x);
    }

    private static void resultsForgotten() {
        sentence("promises 33 to 37, no simulation since the configuration was changed or taken back");
        forgets("propose", 2, x -> x.propose(40, 40, 1, 0, 0, 0));
        forgets("proposeText", 2, x -> {
            type(x, "40,40,1,0,0,0");
            return x.proposeText();
        });
        forgets("withdraw", 1, x -> x.withdraw(1));
        forgets("setLevel", 0, x -> x.setLevel(1, 1));
        sentence("promises 33 to 37 and 9, a successful call, also if nothing changed by it");
        forgets("setLevel to the same level", 0, x -> x.setLevel(1, 0));
        forgets("upgrade", 0, x -> x.upgrade());
        forgets("restore", 2, x -> x.restore());
        forgottenWithoutTasks();
        sentence("promises 33 to 37, upgrade and restore by which something changed");
        DeadlineAdmission slower = simulated();
        due("setLevel(1, 2)", 0, () -> slower.setLevel(1, 2));
        due("simulate(1, 0, 10)", 0, () -> slower.simulate(1, 0, 10));
        due("upgrade()", 2, () -> slower.upgrade());
        forgotten(slower);
        due("setLevel(1, 2)", 0, () -> slower.setLevel(1, 2));
        due("simulate(1, 0, 10)", 0, () -> slower.simulate(1, 0, 10));
        due("restore()", 2, () -> slower.restore());
        forgotten(slower);
        sentence("promises 33 to 37, an admission that is taken back");
        DeadlineAdmission undone = simulated();
        due("undo()", 1, () -> undone.undo());
        forgotten(undone);
        sentence("promises 33 to 37, no simulation at all");
        forgotten(mixed());
    }

    /** Where there is nothing to change at all, upgrade, restore and undo count all the same. */
    private static void forgottenWithoutTasks() {
        DeadlineAdmission none = new DeadlineAdmission();
        none.save();
        List<Change> changes = List.of(x -> x.upgrade(), x -> x.restore(), x -> x.undo() - 1, x -> x.undo());
        for (Change change : changes) {
            due("simulate(1, 0, 7)", 0, () -> none.simulate(1, 0, 7));
            results(none, 0, 0, 0, 7);
            due("a change of no tasks", 0, () -> change.on(none));
            results(none, STATE, STATE, STATE, STATE);
        }
    }

    private static void keeps(String call, Object want, Change noChange) {
        DeadlineAdmission x = simulated();
        due(call, want, () -> noChange.on(x));
        results(x, 3, 0, 0, 5);
        due("response(0) behind " + call, 2, () -> x.response(0));
        due("response(1) behind " + call, 3, () -> x.response(1));
    }

    private static void resultsKept() {
        sentence("promises 33 to 37, no change of the configuration");
        keeps("a rejected proposal", -1, x -> x.propose(1, 1, 1, 0, 9, 0));
        keeps("a rejected text", -1, x -> {
            type(x, "1,1,1,0,9,0");
            return x.proposeText();
        });
        keeps("a text with a fault", ARGUMENT, x -> x.proposeText());
        keeps("a proposal out of range", ARGUMENT, x -> x.propose(0, 1, 1, 0, 9, 0));
        keeps("withdraw of no task", INDEX, x -> x.withdraw(2));
        keeps("setLevel of no task", INDEX, x -> x.setLevel(2, 0));
        keeps("setLevel of no level", ARGUMENT, x -> x.setLevel(1, 3));
        keeps("simulate out of range", ARGUMENT, x -> x.simulate(1, 0, 0));
        keeps("save", "saved", x -> {
            x.save();
            return "saved";
        });
        DeadlineAdmission full = eight();
        due("simulate(1, 0, 8)", 0, () -> full.simulate(1, 0, 8));
        proposed(full, STATE, 40, 40, 1, 0, 0, 0);
        results(full, 8, 0, 0, 0);
        DeadlineAdmission emptied = with(task(5, 5, 1, 0, 0, 0));
        due("undo()", 0, () -> emptied.undo());
        due("simulate(1, 0, 8)", 0, () -> emptied.simulate(1, 0, 8));
        due("undo() of none", STATE, () -> emptied.undo());
        due("restore() of nothing", STATE, () -> emptied.restore());
        results(emptied, 0, 0, 0, 8);
    }

    private static void response() {
        promise(37);
        DeadlineAdmission x = with(task(5, 5, 2, 0, 0, 0), task(5, 5, 3, 0, 0, 0));
        for (int horizon = 1; horizon <= 10; horizon++) {
            int end = horizon;
            due("simulate(1, 0, " + end + ")", 0, () -> x.simulate(1, 0, end));
            due("response(0)", end < 2 ? NONE : 2, () -> x.response(0));
            due("response(1)", end < 5 ? NONE : 5, () -> x.response(1));
            due("response(2)", INDEX, () -> x.response(2));
            due("response(-1)", INDEX, () -> x.response(-1));
        }
        sentence("promise 37, the greatest response time, be it the first or a later one");
        DeadlineAdmission first = with(task(4, 4, 1, 0, 0, 0), task(6, 6, 1, 0, 0, 0));
        due("simulate(1, 0, 6)", 0, () -> first.simulate(1, 0, 6));
        due("response(1)", 2, () -> first.response(1));
        due("simulate(1, 0, 12)", 0, () -> first.simulate(1, 0, 12));
        due("response(1), the second one took 1", 2, () -> first.response(1));
        DeadlineAdmission later = with(task(6, 5, 1, 0, 0, 0), task(4, 4, 2, 0, 0, 0));
        due("simulate(1, 0, 4)", 0, () -> later.simulate(1, 0, 4));
        due("response(0)", 3, () -> later.response(0));
        due("response(1)", 2, () -> later.response(1));
        due("simulate(1, 0, 200)", 0, () -> later.simulate(1, 0, 200));
        due("response(0)", 3, () -> later.response(0));
        due("response(1)", 2, () -> later.response(1));
    }

    private static void save() {
        promise(38);
        DeadlineAdmission x = new DeadlineAdmission();
        due("restore() of nothing", STATE, () -> x.restore());
        x.save();
        proposed(x, 0, 8, 8, 1, 8, 0, 0);
        due("scale()", 1, () -> x.scale());
        due("restore() of no tasks", 0, () -> x.restore());
        due("scale()", 8, () -> x.scale());
        due("taskCount()", 0, () -> x.taskCount());
        due("undo()", 1, () -> x.undo());
        due("scale()", 1, () -> x.scale());
        sentence("promise 38, in place of what was saved before");
        x.save();
        due("withdraw(0)", 0, () -> x.withdraw(0));
        due("restore()", 1, () -> x.restore());
        due("scale()", 1, () -> x.scale());
        DeadlineAdmission full = eight();
        full.save();
        for (int left = 5; left >= 0; left--) {
            int remain = left;
            due("undo()", remain, () -> full.undo());
        }
        due("taskCount()", 2, () -> full.taskCount());
        due("restore() of 8 tasks", 8, () -> full.restore());
        due("deadline(7)", 33, () -> full.deadline(7));
        proposed(full, STATE, 40, 40, 1, 0, 0, 0);
    }

    private static void restore() {
        promise(39);
        DeadlineAdmission x = with(task(8, 8, 1, 3, 0, 0), task(40, 40, 1, 0, 0, 2));
        due("setLevel(1, 1)", 0, () -> x.setLevel(1, 1));
        x.save();
        List<Change> changes = new ArrayList<>();
        changes.add(y -> y.setLevel(1, 2));
        changes.add(y -> y.upgrade());
        changes.add(y -> y.withdraw(0));
        changes.add(y -> y.propose(20, 20, 1, 2, 0, 0));
        changes.add(y -> y.undo());
        sentence("promise 39, they stay saved whatever is changed");
        for (Change change : changes) {
            change.on(x);
            due("restore()", 2, () -> x.restore());
            due("what is restored", "2 tasks, scale 6, 8 8 0, 40 80 1", () -> shown(x));
        }
        sentence("promise 39, the greatest levels and importances are restored too");
        due("setLevel(1, 2)", 1, () -> x.setLevel(1, 2));
        due("setLevel(0, 1)", ARGUMENT, () -> x.setLevel(0, 1));
        sentence("promise 39, the text and the latest rejection are no part of it");
        proposed(x, -1, 1, 1, 1, 0, 9, 0);
        int length = x.rejectionLength();
        type(x, "12");
        due("restore()", 2, () -> x.restore());
        due("rejectionLength()", length, () -> x.rejectionLength());
        due("the next character", 3, () -> x.appendCharacter('3'));
    }

    /** The last of the 512 calls that an object is made for. */
    private static void manyCalls() {
        sentence("an object is used for at most 512 calls");
        DeadlineAdmission x = new DeadlineAdmission();
        for (int pair = 0; pair < 255; pair++) {
            proposed(x, 0, 40, 40, 1, 0, 0, 0);
            due("withdraw(0)", 0, () -> x.withdraw(0));
        }
        proposed(x, 0, 40, 40, 1, 0, 0, 0);
        due("undo(), the last call", 5, () -> x.undo());
        DeadlineAdmission simulated = eight();
        for (int call = 8; call < 512; call++) {
            due("simulate(1, 0, 200)", 0, () -> simulated.simulate(1, 0, 200));
        }
    }
}
