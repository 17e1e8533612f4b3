/** For each promise of the document: ordinary inputs, the edges that it names, and wrong inputs. */
public final class PromiseTest extends Checks {
    public static void main(String[] args) {
        newObject();
        proposeRanges();
        proposeDegrades();
        proposeRejects();
        proposeText();
        appendCharacter();
        faultPosition();
        withdraw();
        upgrade();
        setLevel();
        undo();
        taskGetters();
        demand();
        slackAndTightest();
        passesAndScales();
        utilization();
        load();
        descent();
        rejection();
        simulate();
        simulationResults();
        saveAndRestore();
        finish("all promises hold");
    }

    private static void newObject() {
        promise(1);
        DeadlineAdmission x = new DeadlineAdmission();
        due("REJECTED", -1, () -> DeadlineAdmission.REJECTED);
        due("taskCount()", 0, () -> x.taskCount());
        due("scale()", 8, () -> x.scale());
        due("faultPosition()", -1, () -> x.faultPosition());
        due("feasibleScales()", 510, () -> x.feasibleScales());
        due("undo()", STATE, () -> x.undo());
        due("restore()", STATE, () -> x.restore());
        due("upgrade()", 0, () -> x.upgrade());
        due("simulate(1, 50, 200)", 0, () -> x.simulate(1, 50, 200));
        due("idleUnits()", 200, () -> x.idleUnits());
        due("scale()", 8, () -> x.scale());
    }

    private static void proposeRanges() {
        promise(2);
        int[][] bad = {
            {0, 1, 1, 0, 0, 0}, {41, 1, 1, 0, 0, 0}, {-1, -1, -1, 0, 0, 0}, {5, 0, 1, 0, 0, 0}, {5, 6, 1, 0, 0, 0},
            {5, 5, 0, 0, 0, 0}, {5, 4, 5, 0, 0, 0}, {5, 5, 3, 2, 0, 0}, {5, 4, 3, 5, 0, 0}, {5, 5, 3, -1, 0, 0},
            {5, 5, 1, 0, -1, 0}, {5, 5, 1, 0, 10, 0}, {5, 5, 1, 0, 0, -1}, {5, 5, 1, 0, 0, 3}, {5, 5, 1, 1, 0, 1},
            {Integer.MAX_VALUE, 1, 1, 0, 0, 0}, {5, Integer.MIN_VALUE, 1, 0, 0, 0}
        };
        DeadlineAdmission x = new DeadlineAdmission();
        for (int[] n : bad) {
            due("propose of " + java.util.Arrays.toString(n), ARGUMENT, () -> x.propose(n[0], n[1], n[2], n[3], n[4], n[5]));
        }
        due("taskCount()", 0, () -> x.taskCount());
        int[][] edges = {{1, 1, 1, 0, 0, 0}, {1, 1, 1, 1, 9, 0}, {40, 40, 40, 40, 9, 0}, {40, 1, 1, 0, 9, 2}, {40, 40, 1, 1, 0, 0}};
        for (int[] n : edges) {
            with(n);
        }
        for (int k = 0; k < 8; k++) {
            int number = k;
            due("propose", number, () -> x.propose(40, 40, 1, 0, 0, 0));
        }
        due("a ninth task", STATE, () -> x.propose(40, 40, 1, 0, 0, 0));
        due("a ninth task that is out of range", ARGUMENT, () -> x.propose(41, 40, 1, 0, 0, 0));
        due("taskCount()", 8, () -> x.taskCount());
    }

    private static void proposeDegrades() {
        promise(2);
        DeadlineAdmission byImportance = with(task(4, 4, 2, 0, 3, 1), task(4, 4, 2, 0, 1, 2));
        due("propose(8, 8, 4, 0, 9, 0)", 2, () -> byImportance.propose(8, 8, 4, 0, 9, 0));
        levels(byImportance, 1, 2, 0);
        DeadlineAdmission oneStep = with(task(4, 4, 2, 0, 3, 1), task(4, 4, 2, 0, 1, 2), task(8, 8, 2, 0, 2, 0));
        levels(oneStep, 0, 1, 0);
        DeadlineAdmission byNumber = with(task(4, 4, 2, 0, 1, 1), task(4, 4, 2, 0, 1, 1), task(8, 8, 2, 0, 9, 0));
        levels(byNumber, 1, 0, 0);
        DeadlineAdmission newTaskToo = with(task(4, 4, 2, 0, 5, 0), task(3, 3, 2, 0, 1, 2));
        levels(newTaskToo, 0, 1);
        DeadlineAdmission lowersScale = with(task(10, 10, 1, 10, 0, 0));
        due("scale()", 1, () -> lowersScale.scale());
    }

    private static void proposeRejects() {
        promise(2);
        DeadlineAdmission x = with(task(4, 4, 2, 0, 3, 1), task(4, 4, 2, 0, 1, 2));
        due("simulate(1, 0, 10)", 0, () -> x.simulate(1, 0, 10));
        due("propose(4, 4, 3, 0, 0, 2)", -1, () -> x.propose(4, 4, 3, 0, 0, 2));
        due("taskCount()", 2, () -> x.taskCount());
        due("scale()", 8, () -> x.scale());
        levels(x, 0, 0);
        due("completed() after a rejection", 5, () -> x.completed());
        due("undo() after a rejection", 1, () -> x.undo());
    }

    private static void proposeText() {
        promise(3);
        DeadlineAdmission x = new DeadlineAdmission();
        type(x, "20,15,03,6,2,0");
        due("proposeText()", 0, () -> x.proposeText());
        due("period(0)", 20, () -> x.period(0));
        due("deadline(0)", 15, () -> x.deadline(0));
        due("budget(0, 0)", 3, () -> x.budget(0, 0));
        due("budget(0, 1)", 6, () -> x.budget(0, 1));
        type(x, "40,40,40,0,1,2");
        due("proposeText()", -1, () -> x.proposeText());
        type(x, "41,40,40,0,1,2");
        due("proposeText() out of range", ARGUMENT, () -> x.proposeText());
        due("faultPosition()", -1, () -> x.faultPosition());
        type(x, "1;");
        due("proposeText() with a fault", ARGUMENT, () -> x.proposeText());
        due("proposeText() of the emptied text", ARGUMENT, () -> x.proposeText());
        due("faultPosition()", 0, () -> x.faultPosition());
        DeadlineAdmission full = new DeadlineAdmission();
        for (int k = 0; k < 8; k++) {
            full.propose(40, 40, 1, 0, 0, 0);
        }
        type(full, "40,40,1,0,0,0");
        due("proposeText() with 8 tasks", STATE, () -> full.proposeText());
        due("appendCharacter(49) after it", 1, () -> full.appendCharacter(49));
        due("proposeText() with 8 tasks and a fault", ARGUMENT, () -> full.proposeText());
        DeadlineAdmission ranks = new DeadlineAdmission();
        type(ranks, "4,4,2,0,3,2");
        due("proposeText()", 0, () -> ranks.proposeText());
        due("setLevel(0, 2)", 0, () -> ranks.setLevel(0, 2));
    }

    private static void appendCharacter() {
        promise(4);
        DeadlineAdmission x = new DeadlineAdmission();
        due("appendCharacter(32)", ARGUMENT, () -> x.appendCharacter(32));
        due("appendCharacter(127)", ARGUMENT, () -> x.appendCharacter(127));
        due("appendCharacter(-1)", ARGUMENT, () -> x.appendCharacter(-1));
        due("appendCharacter(33)", 1, () -> x.appendCharacter(33));
        due("appendCharacter(126)", 2, () -> x.appendCharacter(126));
        for (int length = 3; length <= 30; length++) {
            due("appendCharacter(48)", length, () -> x.appendCharacter(48));
        }
        due("appendCharacter(48) to a full text", STATE, () -> x.appendCharacter(48));
        due("appendCharacter(32) to a full text", ARGUMENT, () -> x.appendCharacter(32));
    }

    private static void faultPosition() {
        promise(5);
        String[] texts = {"", "1", "12", "123", "1,", "1,,", ",", "x", "1,2,3,4,5", "1,2,3,4,5,", "1,2,3,4,5,6,", "1,2,3,4,5,67",
            "1,2,3,4,5,678", "1,2,3,4,5,6x", "10,10,01,00,00,00", "10,10,01,00,00,00,10,10,01,00,0", "1,-2", "1,2/", "1,2:", "/", ":"};
        int[] faults = {0, 1, 2, 2, 2, 2, 0, 0, 9, 10, 11, -1, 12, 11, -1, 17, 2, 3, 3, 0, 0};
        for (int k = 0; k < texts.length; k++) {
            String text = texts[k].length() > 30 ? texts[k].substring(0, 30) : texts[k];
            int fault = faults[k];
            DeadlineAdmission x = new DeadlineAdmission();
            type(x, text);
            due("faultPosition() before the reading", -1, () -> x.faultPosition());
            if (text.equals("10,10,01,00,00,00")) {
                due("proposeText() of " + text, 0, () -> x.proposeText());
            } else {
                due("proposeText() of " + text, ARGUMENT, () -> x.proposeText());
            }
            due("faultPosition() of " + text, fault, () -> x.faultPosition());
            due("propose leaves the fault position", fault < 0 ? "ok" : fault, () -> {
                x.propose(40, 40, 1, 0, 0, 0);
                return fault < 0 ? "ok" : x.faultPosition();
            });
        }
        DeadlineAdmission mended = new DeadlineAdmission();
        type(mended, "7x");
        due("proposeText()", ARGUMENT, () -> mended.proposeText());
        type(mended, "7,7,1,0,9,0");
        due("faultPosition() while typing", 1, () -> mended.faultPosition());
        due("proposeText()", 0, () -> mended.proposeText());
        due("faultPosition()", -1, () -> mended.faultPosition());
    }

    private static void withdraw() {
        promise(6);
        DeadlineAdmission x = with(task(10, 8, 2, 4, 5, 0), task(12, 12, 3, 0, 2, 2), task(40, 30, 1, 0, 7, 1));
        due("setLevel(1, 1)", 0, () -> x.setLevel(1, 1));
        due("withdraw(3)", INDEX, () -> x.withdraw(3));
        due("withdraw(-1)", INDEX, () -> x.withdraw(-1));
        due("scale() before", 6, () -> x.scale());
        due("withdraw(0)", 2, () -> x.withdraw(0));
        due("scale() after", 8, () -> x.scale());
        due("deadline(0)", 12, () -> x.deadline(0));
        due("deadline(1)", 30, () -> x.deadline(1));
        due("isCritical(0)", false, () -> x.isCritical(0));
        levels(x, 1, 0);
        due("setLevel(1, 1) by the moved greatest level", 0, () -> x.setLevel(1, 1));
        due("setLevel(1, 2)", ARGUMENT, () -> x.setLevel(1, 2));
        due("withdraw(1)", 1, () -> x.withdraw(1));
        due("withdraw(0)", 0, () -> x.withdraw(0));
        due("withdraw(0) of none", INDEX, () -> x.withdraw(0));
        DeadlineAdmission rejecting = with(task(4, 4, 4, 0, 0, 0));
        due("propose(4, 4, 1, 0, 0, 0)", -1, () -> rejecting.propose(4, 4, 1, 0, 0, 0));
        due("withdraw(0) after a rejection", 0, () -> rejecting.withdraw(0));
    }

    private static void upgrade() {
        promise(7);
        DeadlineAdmission byImportance = with(task(4, 4, 2, 0, 1, 1), task(4, 4, 2, 0, 3, 1), task(8, 8, 2, 0, 9, 0));
        levels(byImportance, 1, 0, 0);
        due("setLevel(1, 1)", 0, () -> byImportance.setLevel(1, 1));
        due("upgrade()", 1, () -> byImportance.upgrade());
        levels(byImportance, 1, 0, 0);
        DeadlineAdmission byNumber = with(task(4, 4, 2, 0, 3, 1), task(4, 4, 2, 0, 3, 1), task(8, 8, 2, 0, 9, 0));
        due("setLevel(1, 1)", 0, () -> byNumber.setLevel(1, 1));
        due("upgrade()", 1, () -> byNumber.upgrade());
        levels(byNumber, 0, 1, 0);
        DeadlineAdmission twice = mixed();
        due("setLevel(1, 2)", 0, () -> twice.setLevel(1, 2));
        due("upgrade()", 2, () -> twice.upgrade());
        levels(twice, 0, 0);
        due("scale()", 6, () -> twice.scale());
        due("upgrade() of nothing", 0, () -> twice.upgrade());
        due("undo() of an upgrade of nothing", 4, () -> twice.undo());
        due("undo() of the upgrade", 3, () -> twice.undo());
        levels(twice, 0, 2);
        due("upgrade() after undo()", 2, () -> twice.upgrade());
        DeadlineAdmission least = with(task(4, 4, 2, 0, 0, 2));
        due("setLevel(0, 2)", 0, () -> least.setLevel(0, 2));
        due("propose(1, 1, 1, 0, 0, 0)", -1, () -> least.propose(1, 1, 1, 0, 0, 0));
        due("upgrade() of importance 0", 2, () -> least.upgrade());
        due("taskCount()", 1, () -> least.taskCount());
    }

    private static void setLevel() {
        promise(8);
        DeadlineAdmission x = with(task(4, 4, 2, 0, 3, 1), task(4, 4, 2, 0, 1, 2), task(8, 8, 2, 0, 2, 0));
        due("setLevel(3, 0)", INDEX, () -> x.setLevel(3, 0));
        due("setLevel(-1, 9)", INDEX, () -> x.setLevel(-1, 9));
        due("setLevel(0, 2)", ARGUMENT, () -> x.setLevel(0, 2));
        due("setLevel(1, 3)", ARGUMENT, () -> x.setLevel(1, 3));
        due("setLevel(1, -1)", ARGUMENT, () -> x.setLevel(1, -1));
        due("setLevel(2, 1)", ARGUMENT, () -> x.setLevel(2, 1));
        due("setLevel(1, 0)", STATE, () -> x.setLevel(1, 0));
        levels(x, 0, 1, 0);
        due("setLevel(1, 2)", 1, () -> x.setLevel(1, 2));
        due("setLevel(1, 2)", 2, () -> x.setLevel(1, 2));
        due("period(1)", 12, () -> x.period(1));
        DeadlineAdmission scaled = with(task(10, 10, 3, 5, 0, 0), task(5, 5, 2, 0, 0, 2));
        int before = scaled.scale();
        due("setLevel(1, 2)", 0, () -> scaled.setLevel(1, 2));
        due("the scale is the greatest of feasibleScales()", true,
            () -> scaled.scale() == 31 - Integer.numberOfLeadingZeros(scaled.feasibleScales()));
        due("setLevel(1, 0)", 2, () -> scaled.setLevel(1, 0));
        due("scale() again", before, () -> scaled.scale());
    }

    private static void undo() {
        promise(9);
        DeadlineAdmission x = mixed();
        due("undo()", 1, () -> x.undo());
        due("taskCount()", 1, () -> x.taskCount());
        due("undo()", 0, () -> x.undo());
        due("taskCount()", 0, () -> x.taskCount());
        due("undo()", STATE, () -> x.undo());
        DeadlineAdmission changes = mixed();
        changes.save();
        due("withdraw(0)", 1, () -> changes.withdraw(0));
        due("restore()", 2, () -> changes.restore());
        due("setLevel(1, 0)", 0, () -> changes.setLevel(1, 0));
        due("setLevel(1, 3) is no change", ARGUMENT, () -> changes.setLevel(1, 3));
        due("upgrade()", 0, () -> changes.upgrade());
        due("undo() of upgrade", 5, () -> changes.undo());
        due("undo() of setLevel", 4, () -> changes.undo());
        due("undo() of restore", 3, () -> changes.undo());
        due("taskCount()", 1, () -> changes.taskCount());
        due("scale()", 8, () -> changes.scale());
        due("undo() of withdraw", 2, () -> changes.undo());
        due("taskCount()", 2, () -> changes.taskCount());
        due("scale()", 6, () -> changes.scale());
        due("virtualDeadline(0)", 6, () -> changes.virtualDeadline(0));
        DeadlineAdmission many = new DeadlineAdmission();
        for (int k = 0; k < 8; k++) {
            many.propose(40 - k, 30, 1, 0, 0, 0);
        }
        for (int left = 5; left >= 0; left--) {
            int kept = left;
            due("undo()", kept, () -> many.undo());
        }
        due("undo() of a forgotten change", STATE, () -> many.undo());
        due("taskCount()", 2, () -> many.taskCount());
        due("period(1)", 39, () -> many.period(1));
        due("propose(40, 1, 1, 0, 0, 0)", 2, () -> many.propose(40, 1, 1, 0, 0, 0));
        due("undo()", 0, () -> many.undo());
        DeadlineAdmission degraded = with(task(4, 4, 2, 0, 3, 1), task(4, 4, 2, 0, 1, 2), task(8, 8, 4, 0, 9, 0));
        due("undo()", 2, () -> degraded.undo());
        levels(degraded, 0, 0);
    }

    private static void taskGetters() {
        promise(10);
        DeadlineAdmission x = mixed();
        due("taskCount()", 2, () -> x.taskCount());
        promise(11);
        due("scale()", 6, () -> x.scale());
        promise(12);
        due("period(0)", 10, () -> x.period(0));
        due("period(2)", INDEX, () -> x.period(2));
        due("period(-1)", INDEX, () -> x.period(-1));
        due("setLevel(1, 2)", 0, () -> x.setLevel(1, 2));
        due("period(1) at level 2", 36, () -> x.period(1));
        promise(13);
        due("deadline(0)", 8, () -> x.deadline(0));
        due("deadline(1)", 12, () -> x.deadline(1));
        due("deadline(2)", INDEX, () -> x.deadline(2));
        due("deadline(-1)", INDEX, () -> x.deadline(-1));
        promise(14);
        due("virtualDeadline(0)", 6, () -> x.virtualDeadline(0));
        due("virtualDeadline(1)", 12, () -> x.virtualDeadline(1));
        due("virtualDeadline(2)", INDEX, () -> x.virtualDeadline(2));
        due("virtualDeadline(-1)", INDEX, () -> x.virtualDeadline(-1));
        DeadlineAdmission tight = with(task(10, 10, 1, 10, 0, 0));
        due("virtualDeadline(0) of 10 * 1 / 8", 1, () -> tight.virtualDeadline(0));
        DeadlineAdmission floored = with(task(20, 10, 7, 9, 0, 0));
        due("virtualDeadline(0) is CL at least", true, () -> floored.virtualDeadline(0) >= 7);
        promise(15);
        due("budget(0, 0)", 2, () -> x.budget(0, 0));
        due("budget(0, 1)", 4, () -> x.budget(0, 1));
        due("budget(1, 0)", 3, () -> x.budget(1, 0));
        due("budget(1, 1)", UNSUPPORTED, () -> x.budget(1, 1));
        due("budget(1, 2)", ARGUMENT, () -> x.budget(1, 2));
        due("budget(0, -1)", ARGUMENT, () -> x.budget(0, -1));
        due("budget(2, 2)", INDEX, () -> x.budget(2, 2));
        due("budget(-1, 0)", INDEX, () -> x.budget(-1, 0));
        promise(16);
        levels(x, 0, 2);
        due("level(2)", INDEX, () -> x.level(2));
        due("level(-1)", INDEX, () -> x.level(-1));
        promise(17);
        due("isCritical(0)", true, () -> x.isCritical(0));
        due("isCritical(1)", false, () -> x.isCritical(1));
        due("isCritical(0) with CH 1", true, () -> with(task(5, 5, 1, 1, 0, 0)).isCritical(0));
        due("isCritical(2)", INDEX, () -> x.isCritical(2));
        due("isCritical(-1)", INDEX, () -> x.isCritical(-1));
    }

    private static void demand() {
        promise(18);
        DeadlineAdmission x = mixed();
        int[][] low = {{0, 0}, {5, 0}, {6, 2}, {11, 2}, {12, 5}, {15, 5}, {16, 7}, {23, 7}, {24, 10}, {26, 12}, {200, 88}};
        for (int[] pair : low) {
            due("demand(0, " + pair[0] + ")", pair[1], () -> x.demand(0, pair[0]));
        }
        int[][] high = {{0, 0}, {1, 0}, {2, 2}, {3, 3}, {4, 4}, {9, 4}, {10, 4}, {11, 4}, {12, 6}, {13, 7}, {14, 8}, {20, 8}, {200, 80}};
        for (int[] pair : high) {
            due("demand(1, " + pair[0] + ")", pair[1], () -> x.demand(1, pair[0]));
        }
        due("demand(0, -1)", ARGUMENT, () -> x.demand(0, -1));
        due("demand(0, 201)", ARGUMENT, () -> x.demand(0, 201));
        due("demand(2, 5)", ARGUMENT, () -> x.demand(2, 5));
        due("demand(-1, 5)", ARGUMENT, () -> x.demand(-1, 5));
        DeadlineAdmission equal = with(task(5, 5, 1, 1, 0, 0));
        due("scale()", 8, () -> equal.scale());
        due("demand(1, 0) without a gap", 0, () -> equal.demand(1, 0));
        due("demand(1, 1) without a gap", 1, () -> equal.demand(1, 1));
        due("demand(1, 5) without a gap", 1, () -> equal.demand(1, 5));
    }

    /** Its demand in low mode meets t at 200 alone. */
    private static DeadlineAdmission tightAtTheEnd() {
        return with(task(40, 40, 24, 0, 0, 0), task(35, 35, 7, 0, 0, 0), task(34, 29, 5, 0, 0, 0), task(35, 28, 3, 0, 0, 0));
    }

    private static void slackAndTightest() {
        promise(19);
        DeadlineAdmission none = new DeadlineAdmission();
        DeadlineAdmission full = with(task(4, 4, 2, 0, 3, 1), task(4, 4, 2, 0, 1, 2));
        DeadlineAdmission late = with(task(40, 10, 9, 0, 0, 0), task(40, 20, 11, 0, 0, 0));
        due("slack(0)", 1, () -> none.slack(0));
        due("slack(1)", 1, () -> none.slack(1));
        due("slack(0)", 0, () -> full.slack(0));
        due("slack(0)", 0, () -> late.slack(0));
        due("slack(0) at the last t", 0, () -> tightAtTheEnd().slack(0));
        due("slack(1)", 1, () -> late.slack(1));
        due("slack(1)", 0, () -> mixed().slack(1));
        due("slack(2)", ARGUMENT, () -> full.slack(2));
        due("slack(-1)", ARGUMENT, () -> full.slack(-1));
        promise(20);
        due("tightest(0) at the last t", 200, () -> tightAtTheEnd().tightest(0));
        due("tightest(0)", 1, () -> none.tightest(0));
        due("tightest(0)", 4, () -> full.tightest(0));
        due("tightest(0)", 20, () -> late.tightest(0));
        due("tightest(1)", 1, () -> late.tightest(1));
        due("tightest(1)", 2, () -> mixed().tightest(1));
        due("tightest(2)", ARGUMENT, () -> full.tightest(2));
        due("tightest(-1)", ARGUMENT, () -> full.tightest(-1));
    }

    private static void passesAndScales() {
        promise(21);
        DeadlineAdmission x = mixed();
        due("passes(1, 8)", false, () -> x.passes(1, 8));
        due("passes(1, 7)", false, () -> x.passes(1, 7));
        due("passes(1, 6)", true, () -> x.passes(1, 6));
        due("passes(0, 8)", true, () -> x.passes(0, 8));
        due("passes(0, 1)", true, () -> x.passes(0, 1));
        due("passes(0, 0)", ARGUMENT, () -> x.passes(0, 0));
        due("passes(0, 9)", ARGUMENT, () -> x.passes(0, 9));
        due("passes(2, 8)", ARGUMENT, () -> x.passes(2, 8));
        due("passes(-1, 8)", ARGUMENT, () -> x.passes(-1, 8));
        due("scale() stays", 6, () -> x.scale());
        promise(22);
        due("feasibleScales()", 126, () -> x.feasibleScales());
        due("feasibleScales()", 510, () -> with(task(1, 1, 1, 0, 0, 0)).feasibleScales());
        due("feasibleScales()", 2, () -> with(task(10, 10, 1, 10, 0, 0)).feasibleScales());
    }

    private static void utilization() {
        promise(23);
        DeadlineAdmission x = mixed();
        due("utilization(0)", 2.0 / 10.0 + 3.0 / 12.0, () -> x.utilization(0));
        due("utilization(1)", 0.4, () -> x.utilization(1));
        due("utilization(2)", ARGUMENT, () -> x.utilization(2));
        due("utilization(-1)", ARGUMENT, () -> x.utilization(-1));
        DeadlineAdmission thirds = with(task(30, 30, 1, 0, 0, 2), task(7, 7, 1, 0, 0, 0), task(11, 11, 2, 0, 0, 0));
        due("setLevel(0, 1)", 0, () -> thirds.setLevel(0, 1));
        double sum = 1.0 / 60.0 + 1.0 / 7.0 + 2.0 / 11.0;
        due("utilization(0)", sum, () -> thirds.utilization(0));
        due("utilization(1)", 0.0, () -> thirds.utilization(1));
        promise(24);
        due("utilizationBits(0)", Double.doubleToLongBits(sum), () -> thirds.utilizationBits(0));
        due("utilizationBits(1)", 0L, () -> thirds.utilizationBits(1));
        due("utilizationBits(0) of 1", Double.doubleToLongBits(1.0), () -> with(task(1, 1, 1, 0, 0, 0)).utilizationBits(0));
        due("utilizationBits(2)", ARGUMENT, () -> x.utilizationBits(2));
        due("utilizationBits(-1)", ARGUMENT, () -> x.utilizationBits(-1));
        for (int period = 1; period <= 40; period++) {
            for (int budget = 1; budget <= period; budget++) {
                DeadlineAdmission one = new DeadlineAdmission();
                one.propose(period, period, budget, 0, 0, 0);
                long bits = Double.doubleToLongBits((double) budget / (double) period);
                due("utilizationBits(0) of " + budget + " / " + period, bits, () -> one.utilizationBits(0));
            }
        }
    }

    private static void load() {
        promise(25);
        DeadlineAdmission x = mixed();
        due("load(1)", 1.0f, () -> x.load(1));
        due("load(0)", 17.0f / 36.0f, () -> x.load(0));
        due("load(0) at the last t", 1.0f, () -> tightAtTheEnd().load(0));
        due("load(0)", 0.0f, () -> new DeadlineAdmission().load(0));
        due("load(2)", ARGUMENT, () -> x.load(2));
        due("load(-1)", ARGUMENT, () -> x.load(-1));
        promise(26);
        due("loadBits(1)", Float.floatToIntBits(1.0f), () -> x.loadBits(1));
        due("loadBits(0)", 0, () -> new DeadlineAdmission().loadBits(0));
        due("loadBits(2)", ARGUMENT, () -> x.loadBits(2));
        due("loadBits(-1)", ARGUMENT, () -> x.loadBits(-1));
        for (int deadline = 1; deadline <= 40; deadline++) {
            for (int budget = 1; budget <= deadline; budget++) {
                DeadlineAdmission one = new DeadlineAdmission();
                one.propose(40, deadline, budget, 0, 0, 0);
                int bits = Float.floatToIntBits((float) budget / (float) deadline);
                due("loadBits(0) of " + budget + " / " + deadline, bits, () -> one.loadBits(0));
            }
        }
    }

    private static void descent() {
        promise(28);
        points(new DeadlineAdmission());
        due("descentPoint(2147483647)", INDEX, () -> mixed().descentPoint(Integer.MAX_VALUE));
        points(mixed(), 196, 88, 39, 17, 7);
        points(with(task(40, 40, 40, 0, 0, 0)), 200, 160, 120, 80, 40);
        points(with(task(40, 40, 1, 0, 0, 0)), 200);
        points(with(task(40, 5, 1, 0, 0, 0)), 165);
        points(with(task(40, 4, 1, 0, 0, 0)), 164, 5);
        points(with(task(40, 1, 1, 0, 0, 0)), 161, 5);
        points(with(task(40, 10, 9, 0, 0, 0), task(40, 20, 11, 0, 0, 0)), 180, 100, 60, 40, 20, 10);
        int[] all = new int[200];
        for (int k = 0; k < 200; k++) {
            all[k] = 200 - k;
        }
        points(with(task(1, 1, 1, 0, 0, 0)), all);
    }

    private static void rejection() {
        DeadlineAdmission x = with(task(10, 10, 1, 10, 0, 0));
        promise(29);
        due("rejectionMode()", NONE, () -> x.rejectionMode());
        promise(30);
        due("rejectionLength()", NONE, () -> x.rejectionLength());
        promise(31);
        due("rejectionDemand()", NONE, () -> x.rejectionDemand());
        due("propose(10, 10, 1, 1, 0, 0)", -1, () -> x.propose(10, 10, 1, 1, 0, 0));
        rejected(x, 1, 1, 11);
        DeadlineAdmission low = with(task(4, 4, 2, 0, 3, 1), task(4, 4, 2, 0, 1, 2), task(8, 8, 2, 0, 2, 0));
        due("propose(8, 8, 4, 0, 9, 0)", -1, () -> low.propose(8, 8, 4, 0, 9, 0));
        rejected(low, 0, 8, 10);
        due("undo()", 2, () -> low.undo());
        rejected(low, 0, 8, 10);
        due("propose(4, 4, 4, 0, 0, 2)", -1, () -> low.propose(4, 4, 4, 0, 0, 2));
        rejected(low, 0, 4, 8);
        DeadlineAdmission atOnce = with(task(5, 1, 1, 0, 0, 0));
        due("propose(5, 1, 1, 0, 0, 0)", -1, () -> atOnce.propose(5, 1, 1, 0, 0, 0));
        rejected(atOnce, 0, 1, 2);
        DeadlineAdmission atTheEnd = with(task(25, 25, 17, 0, 0, 0), task(40, 40, 5, 0, 0, 0));
        due("propose(25, 25, 5, 0, 0, 0)", -1, () -> atTheEnd.propose(25, 25, 5, 0, 0, 0));
        rejected(atTheEnd, 0, 200, 201);
    }

    private static void simulate() {
        promise(32);
        DeadlineAdmission x = mixed();
        due("simulate(1, -1, 10)", ARGUMENT, () -> x.simulate(1, -1, 10));
        due("simulate(1, 101, 10)", ARGUMENT, () -> x.simulate(1, 101, 10));
        due("simulate(1, 0, 0)", ARGUMENT, () -> x.simulate(1, 0, 0));
        due("simulate(1, 0, 201)", ARGUMENT, () -> x.simulate(1, 0, 201));
        due("completed() after refusals", STATE, () -> x.completed());
        due("simulate(7, 100, 60)", 0, () -> x.simulate(7, 100, 60));
        due("simulate(7, 101, 60)", ARGUMENT, () -> x.simulate(7, 101, 60));
        results(x, 8, 3, 6, 28);
        due("simulate(-7, 0, 200)", 0, () -> x.simulate(-7, 0, 200));
        results(x, 37, 0, 0, 109);
        overrunsByDraws();
    }

    /** A lone critical task: every overrun is one switch, and the draws are plain to follow. */
    private static void overrunsByDraws() {
        for (int seed : new int[] {0, 1, -1, 7, 123456789, Integer.MIN_VALUE, Integer.MAX_VALUE}) {
            for (int overrun = 0; overrun <= 100; overrun += 10) {
                int percentage = overrun;
                int z = seed;
                int expected = 0;
                for (int job = 0; job < 20; job++) {
                    z = z * 1103515245 + 12345;
                    expected += (z >>> 16) % 100 < overrun ? 1 : 0;
                }
                DeadlineAdmission x = with(task(10, 8, 2, 4, 5, 0));
                due("simulate", 0, () -> x.simulate(seed, percentage, 200));
                promise(35);
                due("switches() with seed " + seed + ", overrun " + overrun, expected, () -> x.switches());
                promise(36);
                due("idleUnits()", 160 - 2 * expected, () -> x.idleUnits());
                promise(32);
            }
        }
    }

    private static void simulationResults() {
        DeadlineAdmission x = with(task(5, 5, 2, 0, 0, 2), task(5, 5, 2, 0, 0, 2));
        results(x, STATE, STATE, STATE, STATE);
        promise(37);
        due("response(0)", STATE, () -> x.response(0));
        due("response(2)", INDEX, () -> x.response(2));
        due("response(-1)", INDEX, () -> x.response(-1));
        due("simulate(1, 0, 3)", 0, () -> x.simulate(1, 0, 3));
        due("response(0)", 2, () -> x.response(0));
        due("response(1)", NONE, () -> x.response(1));
        results(x, 1, 0, 0, 0);
        due("simulate(1, 0, 10)", 0, () -> x.simulate(1, 0, 10));
        results(x, 4, 0, 0, 2);
        promise(37);
        due("response(0)", 2, () -> x.response(0));
        due("response(1)", 4, () -> x.response(1));
        due("response(2)", INDEX, () -> x.response(2));
        DeadlineAdmission earlier = with(task(6, 6, 2, 0, 0, 0), task(6, 5, 2, 0, 0, 0));
        due("simulate(1, 0, 6)", 0, () -> earlier.simulate(1, 0, 6));
        due("response(0) of the later deadline", 4, () -> earlier.response(0));
        due("response(1) of the earlier deadline", 2, () -> earlier.response(1));
        due("simulate(1, 0, 1)", 0, () -> earlier.simulate(1, 0, 1));
        due("response(1) of an earlier simulation", NONE, () -> earlier.response(1));
        virtualDeadlinesFirst();
        forgetting(x);
    }

    /** The critical task has the virtual deadline 7 before the other's 9, though its own is 12. */
    private static void virtualDeadlinesFirst() {
        DeadlineAdmission x = with(task(20, 9, 3, 0, 0, 0), task(20, 12, 2, 6, 0, 0));
        promise(14);
        due("virtualDeadline(1)", 7, () -> x.virtualDeadline(1));
        promise(37);
        due("simulate(1, 0, 20)", 0, () -> x.simulate(1, 0, 20));
        due("response(0)", 5, () -> x.response(0));
        due("response(1)", 2, () -> x.response(1));
        due("simulate(1, 100, 20)", 0, () -> x.simulate(1, 100, 20));
        due("response(0) of a dropped job", NONE, () -> x.response(0));
        due("response(1)", 6, () -> x.response(1));
        results(x, 1, 1, 1, 14);
        due("simulate(1, 100, 3)", 0, () -> x.simulate(1, 100, 3));
        results(x, 0, 1, 1, 0);
    }

    private static void forgetting(DeadlineAdmission x) {
        x.save();
        String[] changes = {"setLevel", "upgrade", "restore", "propose", "withdraw", "undo"};
        for (String change : changes) {
            promise(32);
            due("simulate(1, 0, 10)", 0, () -> x.simulate(1, 0, 10));
            x.save();
            promise(33);
            due("completed() before " + change, "ok", () -> x.completed() > 0 ? "ok" : "none");
            switch (change) {
                case "setLevel": x.setLevel(0, 0); break;
                case "upgrade": x.upgrade(); break;
                case "restore": x.restore(); break;
                case "propose": x.propose(40, 40, 1, 0, 0, 0); break;
                case "withdraw": x.withdraw(2); break;
                default: x.undo(); break;
            }
            results(x, STATE, STATE, STATE, STATE);
            promise(37);
            due("response(0) after " + change, STATE, () -> x.response(0));
        }
    }

    private static void saveAndRestore() {
        promise(38);
        DeadlineAdmission x = mixed();
        due("restore() of nothing", STATE, () -> x.restore());
        x.save();
        due("setLevel(1, 2)", 0, () -> x.setLevel(1, 2));
        due("withdraw(0)", 1, () -> x.withdraw(0));
        promise(39);
        due("restore()", 2, () -> x.restore());
        due("scale()", 6, () -> x.scale());
        due("deadline(0)", 8, () -> x.deadline(0));
        levels(x, 0, 0);
        due("withdraw(1)", 1, () -> x.withdraw(1));
        due("restore() again", 2, () -> x.restore());
        promise(38);
        due("withdraw(0)", 1, () -> x.withdraw(0));
        x.save();
        due("undo() does not take back a save", 5, () -> x.undo());
        due("taskCount()", 2, () -> x.taskCount());
        due("restore() of the later save", 1, () -> x.restore());
        due("undo() of restore", 5, () -> x.undo());
        due("taskCount()", 2, () -> x.taskCount());
    }
}
