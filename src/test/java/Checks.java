import java.util.concurrent.Callable;

/** What the tests share: answers held against the due ones, and how a setting is made. */
abstract class Checks {
    static final String ARGUMENT = "throws.IllegalArgumentException";
    static final String STATE = "throws.IllegalStateException";
    static final String INDEX = "throws.IndexOutOfBoundsException";
    static final String NONE = "throws.NoSuchElementException";
    static final String UNSUPPORTED = "throws.UnsupportedOperationException";

    private static int wrong = 0;
    private static int held = 0;
    private static String part = "";

    static void promise(int number) {
        part = "promise " + number;
    }

    /** Names the sentence of the document that the following answers belong to. */
    static void sentence(String words) {
        part = words;
    }

    static String answer(Callable<Object> call) {
        try {
            return String.valueOf(call.call());
        } catch (Exception e) {
            return "throws." + e.getClass().getSimpleName();
        }
    }

    static void due(String call, Object want, Callable<Object> got) {
        String answer = answer(got);
        held++;
        if (!answer.equals(String.valueOf(want))) {
            wrong++;
            System.out.println(part + ": " + call + " answered " + answer + ", due is " + want);
        }
    }

    static void finish(String good) {
        System.out.println(wrong == 0 ? good + " (" + held + " answers)" : wrong + " of " + held + " answers are not as due");
        if (wrong != 0) {
            System.exit(1);
        }
    }

    static DeadlineAdmission with(int[]... tasks) {
        DeadlineAdmission x = new DeadlineAdmission();
        for (int k = 0; k < tasks.length; k++) {
            proposed(x, k, tasks[k]);
        }
        return x;
    }

    static int[] task(int... numbers) {
        return numbers;
    }

    static void proposed(DeadlineAdmission x, Object want, int... n) {
        due("propose of " + java.util.Arrays.toString(n), want, () -> x.propose(n[0], n[1], n[2], n[3], n[4], n[5]));
    }

    /** One critical task and one that is not; its scale is 6. */
    static DeadlineAdmission mixed() {
        return with(task(10, 8, 2, 4, 5, 0), task(12, 12, 3, 0, 2, 2));
    }

    /** Eight tasks that are not critical and leave room. */
    static DeadlineAdmission eight() {
        DeadlineAdmission x = new DeadlineAdmission();
        for (int k = 0; k < 8; k++) {
            proposed(x, k, 40, 40 - k, 1, 0, k, 2);
        }
        return x;
    }

    static void type(DeadlineAdmission x, String text) {
        for (int k = 0; k < text.length(); k++) {
            int character = text.charAt(k);
            due("appendCharacter of " + text, k + 1, () -> x.appendCharacter(character));
        }
    }

    static void levels(DeadlineAdmission x, int... levels) {
        for (int k = 0; k < levels.length; k++) {
            int number = k;
            due("level(" + k + ")", levels[k], () -> x.level(number));
        }
    }

    static void rejected(DeadlineAdmission x, Object mode, Object length, Object demand) {
        due("rejectionMode()", mode, () -> x.rejectionMode());
        due("rejectionLength()", length, () -> x.rejectionLength());
        due("rejectionDemand()", demand, () -> x.rejectionDemand());
    }

    static void results(DeadlineAdmission x, Object completed, Object dropped, Object switches, Object idle) {
        due("completed()", completed, () -> x.completed());
        due("dropped()", dropped, () -> x.dropped());
        due("switches()", switches, () -> x.switches());
        due("idleUnits()", idle, () -> x.idleUnits());
    }

    static void points(DeadlineAdmission x, int... points) {
        due("descentLength()", points.length, () -> x.descentLength());
        for (int k = 0; k < points.length; k++) {
            int index = k;
            due("descentPoint(" + k + ")", points[k], () -> x.descentPoint(index));
        }
        due("descentPoint(" + points.length + ")", INDEX, () -> x.descentPoint(points.length));
        due("descentPoint(-1)", INDEX, () -> x.descentPoint(-1));
    }
}
