import java.util.ArrayDeque;
import java.util.ArrayList;
import java.util.Deque;
import java.util.List;
import java.util.NoSuchElementException;
import java.util.Random;
import java.util.TreeSet;
import java.util.concurrent.Callable;

/** Long runs of drawn calls, each answer held against a model written straight from the words of the document. */
public final class ModelTest extends Checks {
    private static final int RUNS = 700;
    /** What later calls of an object answer is free. */
    private static final int CALLS = 512;
    private static final int SHOWN = 20;

    private static int wrong = 0;
    private static int calls = 0;
    private static final int[] seen = new int[8];

    public static void main(String[] args) {
        for (int run = 0; run < RUNS; run++) {
            oneRun(run);
        }
        String[] names = {"admissions", "rejections in low mode", "rejections in high mode", "switches",
            "drops", "degraded levels", "upgrades", "descents by equal demand"};
        for (int k = 0; k < names.length; k++) {
            if (seen[k] == 0) {
                wrong++;
                System.out.println("the drawn runs have no " + names[k]);
            }
        }
        System.out.println(wrong == 0 ? "all answers are as the model's" : wrong + " answers are not as the model's");
        if (wrong != 0) {
            System.exit(1);
        }
    }

    private static void oneRun(int run) {
        Random random = new Random(run);
        DeadlineAdmission object = new DeadlineAdmission();
        Model model = new Model();
        StringBuilder told = new StringBuilder();
        calls = 0;
        boolean fine = true;
        while (fine) {
            fine = oneCall(random, run, object, model, told);
        }
    }

    private static boolean oneCall(Random r, int run, DeadlineAdmission x, Model m, StringBuilder told) {
        int task = r.nextInt(20) == 0 ? (r.nextBoolean() ? -1 : 8) : r.nextInt(Math.max(1, m.tasks.size() + (r.nextInt(6) == 0 ? 1 : 0)));
        int mode = r.nextInt(25) == 0 ? (r.nextBoolean() ? -1 : 2) : r.nextInt(2);
        switch (r.nextInt(40)) {
            case 0: case 1: case 2: case 3: case 4: case 5: case 6: {
                int[] n = drawTask(r, run);
                return same(told, "propose " + java.util.Arrays.toString(n),
                    () -> x.propose(n[0], n[1], n[2], n[3], n[4], n[5]), () -> m.propose(n));
            }
            case 7: case 8: return textCalls(r, run, x, m, told);
            case 9: case 10: return same(told, "withdraw " + task, () -> x.withdraw(task), () -> m.withdraw(task));
            case 11: return same(told, "upgrade", () -> x.upgrade(), () -> m.upgrade());
            case 12: case 13: {
                int level = r.nextInt(10) == 0 ? -1 : r.nextInt(4);
                return same(told, "setLevel " + task + " " + level, () -> x.setLevel(task, level), () -> m.setLevel(task, level));
            }
            case 14: case 15: return same(told, "undo", () -> x.undo(), () -> m.undo());
            case 16: return same(told, "save", () -> { x.save(); return 0; }, () -> { m.save(); return 0; });
            case 17: return same(told, "restore", () -> x.restore(), () -> m.restore());
            case 18: case 19: case 20: {
                int seed = r.nextInt();
                int overrun = r.nextInt(20) == 0 ? (r.nextBoolean() ? -1 : 101) : (r.nextInt(4) == 0 ? 100 * r.nextInt(2) : r.nextInt(101));
                int horizon = r.nextInt(20) == 0 ? (r.nextBoolean() ? 0 : 201) : 1 + r.nextInt(200);
                return same(told, "simulate " + seed + " " + overrun + " " + horizon,
                    () -> x.simulate(seed, overrun, horizon), () -> m.simulate(seed, overrun, horizon))
                    && simulationCalls(x, m, told);
            }
            case 21: return simulationCalls(x, m, told);
            case 22: case 23: return taskCalls(task, mode, x, m, told);
            case 24: case 25: case 26: {
                int t = r.nextInt(20) == 0 ? (r.nextBoolean() ? -1 : 201) : r.nextInt(201);
                return same(told, "demand " + mode + " " + t, () -> x.demand(mode, t), () -> m.demandCall(mode, t));
            }
            case 27: return same(told, "slack " + mode, () -> x.slack(mode), () -> m.slack(mode));
            case 28: return same(told, "tightest " + mode, () -> x.tightest(mode), () -> m.tightest(mode));
            case 29: {
                int scale = r.nextInt(20) == 0 ? 9 * r.nextInt(2) : 1 + r.nextInt(8);
                return same(told, "passes " + mode + " " + scale, () -> x.passes(mode, scale), () -> m.passes(mode, scale));
            }
            case 30: return same(told, "feasibleScales", () -> x.feasibleScales(), () -> m.feasibleScales());
            case 31: return same(told, "utilization " + mode, () -> x.utilization(mode), () -> m.utilization(mode));
            case 32: return same(told, "utilizationBits " + mode, () -> x.utilizationBits(mode), () -> Double.doubleToLongBits(m.utilization(mode)));
            case 33: return same(told, "load " + mode, () -> x.load(mode), () -> m.load(mode));
            case 34: return same(told, "loadBits " + mode, () -> x.loadBits(mode), () -> Float.floatToIntBits(m.load(mode)));
            case 35: case 36: return descentCalls(x, m, told);
            case 37: return same(told, "rejectionMode", () -> x.rejectionMode(), () -> m.rejection()[0]);
            case 38: return same(told, "rejectionLength", () -> x.rejectionLength(), () -> m.rejection()[1]);
            default: return same(told, "rejectionDemand", () -> x.rejectionDemand(), () -> m.rejection()[2]);
        }
    }

    private static int[] drawTask(Random r, int run) {
        if (r.nextInt(12) == 0) {
            return new int[] {r.nextInt(43) - 1, r.nextInt(43) - 1, r.nextInt(12) - 1, r.nextInt(12) - 1, r.nextInt(12) - 1, r.nextInt(5) - 1};
        }
        int longest = run % 3 == 0 ? 40 : run % 3 == 1 ? 12 : 25;
        int period = 1 + r.nextInt(longest);
        int deadline = r.nextInt(3) == 0 ? period : 1 + r.nextInt(period);
        int low = 1 + r.nextInt(r.nextInt(3) == 0 ? deadline : Math.max(1, deadline / 5));
        boolean critical = r.nextInt(2) == 0;
        int high = critical ? Math.min(deadline, low + r.nextInt(Math.max(1, deadline / 3))) : 0;
        return new int[] {period, deadline, low, high, r.nextInt(run % 2 == 0 ? 3 : 10), critical ? 0 : r.nextInt(3)};
    }

    private static boolean textCalls(Random r, int run, DeadlineAdmission x, Model m, StringBuilder told) {
        int[] n = drawTask(r, run);
        StringBuilder text = new StringBuilder();
        for (int k = 0; k < 6; k++) {
            text.append(k > 0 ? "," : "").append(r.nextInt(8) == 0 && n[k] >= 0 && n[k] < 10 ? "0" : "").append(n[k]);
        }
        for (int fault = r.nextInt(4) == 0 ? 1 + r.nextInt(4) : 0; fault > 0; fault--) {
            int at = r.nextInt(text.length() + 1);
            char character = ",0123456789-,".charAt(r.nextInt(13));
            if (r.nextBoolean()) {
                text.insert(at, character);
            } else {
                text.setLength(at);
            }
        }
        if (r.nextInt(10) == 0) {
            text.append("0,1,2,3,4,5,6,7,8,9,0,1,2,3,4,5");
        }
        boolean fine = true;
        for (int k = 0; fine && k < text.length(); k++) {
            int character = text.charAt(k);
            fine = same(told, "appendCharacter " + character, () -> x.appendCharacter(character), () -> m.appendCharacter(character));
        }
        int odd = r.nextBoolean() ? 32 : 127;
        return fine && same(told, "appendCharacter " + odd, () -> x.appendCharacter(odd), () -> m.appendCharacter(odd))
            && same(told, "faultPosition", () -> x.faultPosition(), () -> m.fault)
            && same(told, "proposeText", () -> x.proposeText(), () -> m.proposeText())
            && same(told, "faultPosition", () -> x.faultPosition(), () -> m.fault);
    }

    private static boolean simulationCalls(DeadlineAdmission x, Model m, StringBuilder told) {
        boolean fine = same(told, "completed", () -> x.completed(), () -> m.results()[0])
            && same(told, "dropped", () -> x.dropped(), () -> m.results()[1])
            && same(told, "switches", () -> x.switches(), () -> m.results()[2])
            && same(told, "idleUnits", () -> x.idleUnits(), () -> m.results()[3]);
        for (int k = -1; fine && k <= m.tasks.size(); k++) {
            int task = k;
            fine = same(told, "response " + task, () -> x.response(task), () -> m.response(task));
        }
        return fine;
    }

    private static boolean taskCalls(int task, int mode, DeadlineAdmission x, Model m, StringBuilder told) {
        return same(told, "taskCount", () -> x.taskCount(), () -> m.tasks.size())
            && same(told, "scale", () -> x.scale(), () -> m.scale)
            && same(told, "period " + task, () -> x.period(task), () -> m.task(task).p())
            && same(told, "deadline " + task, () -> x.deadline(task), () -> m.task(task).d)
            && same(told, "virtualDeadline " + task, () -> x.virtualDeadline(task), () -> m.task(task).v(m.scale))
            && same(told, "budget " + task + " " + mode, () -> x.budget(task, mode), () -> m.budget(task, mode))
            && same(told, "level " + task, () -> x.level(task), () -> m.task(task).level)
            && same(told, "isCritical " + task, () -> x.isCritical(task), () -> m.task(task).ch > 0);
    }

    private static boolean descentCalls(DeadlineAdmission x, Model m, StringBuilder told) {
        List<Integer> points = m.descent();
        boolean fine = same(told, "descentLength", () -> x.descentLength(), () -> points.size());
        for (int k = -1; fine && k <= points.size(); k++) {
            int index = k;
            fine = same(told, "descentPoint " + index, () -> x.descentPoint(index), () -> {
                if (index < 0 || index >= points.size()) {
                    throw new IndexOutOfBoundsException();
                }
                return points.get(index);
            });
        }
        return fine;
    }

    /** Whether the run goes on: it ends with a wrong answer, or with the last call that the object is made for. */
    private static boolean same(StringBuilder told, String call, Callable<Object> got, Callable<Object> due) {
        if (calls == CALLS) {
            return false;
        }
        calls++;
        String answer = answer(got);
        String want = answer(due);
        told.append(call).append(" -> ").append(answer).append('\n');
        if (answer.equals(want)) {
            return true;
        }
        wrong++;
        if (wrong <= SHOWN) {
            System.out.println(told + "due is " + want + "\n");
        }
        return false;
    }

    private static final class Task {
        final int t, d, cl, ch, importance, levels;
        int level;

        Task(int t, int d, int cl, int ch, int importance, int levels, int level) {
            this.t = t;
            this.d = d;
            this.cl = cl;
            this.ch = ch;
            this.importance = importance;
            this.levels = levels;
            this.level = level;
        }

        Task copy() {
            return new Task(t, d, cl, ch, importance, levels, level);
        }

        int p() {
            return t * (level + 1);
        }

        int v(int scale) {
            return ch == 0 ? d : Math.max(d * scale / 8, cl);
        }

        int lowDemand(int length, int scale) {
            int demand = 0;
            for (int due = v(scale); due <= length; due += p()) {
                demand += cl;
            }
            return demand;
        }

        int highDemand(int length, int scale) {
            int g = d - v(scale);
            if (ch == 0 || length < g) {
                return 0;
            }
            int r = length % p();
            int demand = ch * (1 + (length - g) / p());
            if (r >= g && r < d) {
                demand -= Math.max(0, cl + g - r);
            }
            return demand;
        }
    }

    private static final class State {
        final List<Task> tasks;
        final int scale;

        State(List<Task> tasks, int scale) {
            this.tasks = tasks;
            this.scale = scale;
        }
    }

    private static final class Job {
        final Task task;
        final int number, release, need;
        int ran;

        Job(Task task, int number, int release, int need) {
            this.task = task;
            this.number = number;
            this.release = release;
            this.need = need;
        }
    }

    private static final class Model {
        List<Task> tasks = new ArrayList<>();
        int scale = 8;
        Deque<State> undos = new ArrayDeque<>();
        State saved;
        String text = "";
        int fault = -1;
        int[] rejected;
        int[] results;
        int[] responses;

        static List<Task> copy(List<Task> from) {
            List<Task> copy = new ArrayList<>();
            for (Task task : from) {
                copy.add(task.copy());
            }
            return copy;
        }

        static int demand(List<Task> tasks, int mode, int length, int scale) {
            int sum = 0;
            for (Task task : tasks) {
                sum += mode == 0 ? task.lowDemand(length, scale) : task.highDemand(length, scale);
            }
            return sum;
        }

        static int failure(List<Task> tasks, int mode, int scale) {
            for (int length = 1; length <= 200; length++) {
                if (demand(tasks, mode, length, scale) > length) {
                    return length;
                }
            }
            return -1;
        }

        static int best(List<Task> tasks) {
            int best = 0;
            for (int s = 1; s <= 8; s++) {
                if (failure(tasks, 0, s) < 0 && failure(tasks, 1, s) < 0) {
                    best = s;
                }
            }
            return best;
        }

        void change(List<Task> next, int nextScale) {
            undos.push(new State(tasks, scale));
            if (undos.size() > 6) {
                undos.removeLast();
            }
            tasks = next;
            scale = nextScale;
            results = null;
        }

        Task task(int number) {
            if (number < 0 || number >= tasks.size()) {
                throw new IndexOutOfBoundsException();
            }
            return tasks.get(number);
        }

        static void mode(int mode) {
            if (mode != 0 && mode != 1) {
                throw new IllegalArgumentException();
            }
        }

        int propose(int[] n) {
            boolean right = 1 <= n[0] && n[0] <= 40 && 1 <= n[1] && n[1] <= n[0] && 1 <= n[2] && n[2] <= n[1]
                && (n[3] == 0 || n[2] <= n[3] && n[3] <= n[1]) && 0 <= n[4] && n[4] <= 9 && 0 <= n[5] && n[5] <= 2
                && (n[3] == 0 || n[5] == 0);
            if (!right) {
                throw new IllegalArgumentException();
            }
            if (tasks.size() == 8) {
                throw new IllegalStateException();
            }
            List<Task> next = copy(tasks);
            next.add(new Task(n[0], n[1], n[2], n[3], n[4], n[5], 0));
            while (best(next) == 0) {
                Task least = null;
                for (Task task : next) {
                    if (task.level < task.levels && (least == null || task.importance < least.importance)) {
                        least = task;
                    }
                }
                if (least == null) {
                    int mode = failure(next, 0, 8) > 0 ? 0 : 1;
                    int length = failure(next, mode, 8);
                    rejected = new int[] {mode, length, demand(next, mode, length, 8)};
                    seen[1 + mode]++;
                    return -1;
                }
                least.level++;
                seen[5]++;
            }
            change(next, best(next));
            seen[0]++;
            return tasks.size() - 1;
        }

        int proposeText() {
            String read = text;
            text = "";
            fault = -1;
            for (int length = 0; fault < 0 && length <= read.length(); length++) {
                if (!canBegin(read.substring(0, length))) {
                    fault = length - 1;
                }
            }
            if (fault < 0 && !read.matches("[0-9]{1,2}(,[0-9]{1,2}){5}")) {
                fault = read.length();
            }
            if (fault >= 0) {
                throw new IllegalArgumentException();
            }
            String[] parts = read.split(",");
            int[] n = new int[6];
            for (int k = 0; k < 6; k++) {
                n[k] = Integer.parseInt(parts[k]);
            }
            return propose(n);
        }

        static boolean canBegin(String text) {
            return text.matches("([0-9]{1,2},){0,5}[0-9]{0,2}");
        }

        int appendCharacter(int character) {
            if (character < 33 || character > 126) {
                throw new IllegalArgumentException();
            }
            if (text.length() == 30) {
                throw new IllegalStateException();
            }
            text += (char) character;
            return text.length();
        }

        int withdraw(int number) {
            task(number);
            List<Task> next = copy(tasks);
            next.remove(number);
            change(next, best(next));
            return tasks.size();
        }

        int upgrade() {
            List<Task> next = copy(tasks);
            List<Task> order = new ArrayList<>(next);
            order.sort((a, b) -> b.importance - a.importance);
            int sum = 0;
            for (Task task : order) {
                while (task.level > 0) {
                    task.level--;
                    if (best(next) == 0) {
                        task.level++;
                        break;
                    }
                    sum++;
                    seen[6]++;
                }
            }
            change(next, best(next));
            return sum;
        }

        int setLevel(int number, int level) {
            int previous = task(number).level;
            if (level < 0 || level > task(number).levels) {
                throw new IllegalArgumentException();
            }
            List<Task> next = copy(tasks);
            next.get(number).level = level;
            if (best(next) == 0) {
                throw new IllegalStateException();
            }
            change(next, best(next));
            return previous;
        }

        int undo() {
            if (undos.isEmpty()) {
                throw new IllegalStateException();
            }
            State state = undos.pop();
            tasks = state.tasks;
            scale = state.scale;
            results = null;
            return undos.size();
        }

        void save() {
            saved = new State(copy(tasks), scale);
        }

        int restore() {
            if (saved == null) {
                throw new IllegalStateException();
            }
            change(copy(saved.tasks), saved.scale);
            return tasks.size();
        }

        int budget(int number, int mode) {
            task(number);
            mode(mode);
            if (mode == 1 && task(number).ch == 0) {
                throw new UnsupportedOperationException();
            }
            return mode == 0 ? task(number).cl : task(number).ch;
        }

        int demandCall(int mode, int length) {
            mode(mode);
            if (length < 0 || length > 200) {
                throw new IllegalArgumentException();
            }
            return demand(tasks, mode, length, scale);
        }

        int slack(int mode) {
            mode(mode);
            int slack = Integer.MAX_VALUE;
            for (int length = 1; length <= 200; length++) {
                slack = Math.min(slack, length - demand(tasks, mode, length, scale));
            }
            return slack;
        }

        int tightest(int mode) {
            int slack = slack(mode);
            int length = 1;
            while (length - demand(tasks, mode, length, scale) != slack) {
                length++;
            }
            return length;
        }

        boolean passes(int mode, int other) {
            mode(mode);
            if (other < 1 || other > 8) {
                throw new IllegalArgumentException();
            }
            return failure(tasks, mode, other) < 0;
        }

        int feasibleScales() {
            int set = 0;
            for (int s = 1; s <= 8; s++) {
                set += passes(0, s) && passes(1, s) ? 1 << s : 0;
            }
            return set;
        }

        double utilization(int mode) {
            mode(mode);
            double sum = 0;
            for (Task task : tasks) {
                sum += (double) (mode == 0 ? task.cl : task.ch) / task.p();
            }
            return sum;
        }

        float load(int mode) {
            mode(mode);
            float load = 0;
            for (int length = 1; length <= 200; length++) {
                load = Math.max(load, (float) demand(tasks, mode, length, scale) / length);
            }
            return load;
        }

        List<Integer> descent() {
            TreeSet<Integer> numbers = new TreeSet<>();
            for (Task task : tasks) {
                for (int number = task.v(scale); number <= 200; number += task.p()) {
                    numbers.add(number);
                }
            }
            List<Integer> points = new ArrayList<>();
            if (numbers.isEmpty()) {
                return points;
            }
            int point = numbers.last();
            points.add(point);
            int demand = demand(tasks, 0, point, scale);
            while (demand <= point && demand > numbers.first()) {
                seen[7] += demand == point ? 1 : 0;
                point = demand < point ? demand : numbers.lower(point);
                points.add(point);
                demand = demand(tasks, 0, point, scale);
            }
            return points;
        }

        int[] rejection() {
            if (rejected == null) {
                throw new NoSuchElementException();
            }
            return rejected;
        }

        int[] results() {
            if (results == null) {
                throw new IllegalStateException();
            }
            return results;
        }

        int response(int number) {
            task(number);
            results();
            if (responses[number] < 0) {
                throw new NoSuchElementException();
            }
            return responses[number];
        }

        int simulate(int seed, int overrun, int horizon) {
            if (overrun < 0 || overrun > 100 || horizon < 1 || horizon > 200) {
                throw new IllegalArgumentException();
            }
            results = new int[4];
            responses = new int[8];
            java.util.Arrays.fill(responses, -1);
            List<Job> jobs = new ArrayList<>();
            int late = 0;
            int z = seed;
            boolean high = false;
            for (int unit = 0; unit < horizon; unit++) {
                high = high && !jobs.isEmpty();
                for (int number = 0; number < tasks.size(); number++) {
                    Task task = tasks.get(number);
                    if (unit % task.p() != 0) {
                        continue;
                    }
                    if (task.ch > 0) {
                        z = z * 1103515245 + 12345;
                        jobs.add(new Job(task, number, unit, (z >>> 16) % 100 < overrun ? task.ch : task.cl));
                    } else if (high) {
                        results[1]++;
                        seen[4]++;
                    } else {
                        jobs.add(new Job(task, number, unit, task.cl));
                    }
                }
                if (jobs.isEmpty()) {
                    results[3]++;
                    continue;
                }
                Job job = first(jobs, high);
                job.ran++;
                if (job.ran == job.need) {
                    jobs.remove(job);
                    results[0]++;
                    int response = unit + 1 - job.release;
                    responses[job.number] = Math.max(responses[job.number], response);
                    late += response > job.task.d && job.release + job.task.d <= horizon ? 1 : 0;
                } else if (!high && job.task.ch > 0 && job.ran == job.task.cl) {
                    high = true;
                    results[2]++;
                    seen[3]++;
                    int before = jobs.size();
                    jobs.removeIf(other -> other.task.ch == 0);
                    results[1] += before - jobs.size();
                }
            }
            for (Job job : jobs) {
                late += job.release + job.task.d <= horizon ? 1 : 0;
            }
            return late;
        }

        Job first(List<Job> jobs, boolean high) {
            Job first = null;
            for (Job job : jobs) {
                if (first == null) {
                    first = job;
                    continue;
                }
                int mine = job.release + (high ? job.task.d : job.task.v(scale));
                int best = first.release + (high ? first.task.d : first.task.v(scale));
                if (mine < best || mine == best && (job.number < first.number
                        || job.number == first.number && job.release < first.release)) {
                    first = job;
                }
            }
            return first;
        }
    }
}
