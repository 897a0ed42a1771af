import java.util.ArrayList;
import java.util.HashSet;
import java.util.List;
import java.util.Set;

/** The document once more, written in another way: lists, whole copies, all steps of a text written out. */
final class Model {
    static final int NO_SUCH = -100001, BAD_VALUE = -100002, BAD_TEXT = -100003, TOO_MANY = -100004, NONE = -100005;
    private static final int[][] SERVER_RANGES = {{1, 20}, {1, 60}, {1, 20}, {0, 4}};
    private static final int[][] CLASS_RANGES = {{1, 9}, {0, 20}, {1, 99}, {1, 99}};
    private static final Set<String> STEPS = new HashSet<>();
    private static final Set<String> BEGINNINGS = new HashSet<>();

    static {
        for (int kind = 0; kind < 3; kind++) {
            for (char shape = 'a'; shape <= 'e'; shape++) {
                for (int cost = 1; cost <= 60; cost++) {
                    STEPS.add("" + kind + shape + cost);
                }
            }
        }
        for (int ticks = 1; ticks <= 99; ticks++) {
            STEPS.add("+" + ticks);
        }
        for (String step : STEPS) {
            for (int end = 0; end <= step.length(); end++) {
                BEGINNINGS.add(step.substring(0, end));
            }
        }
    }

    private static final class Job {
        int id, kind, shape, cost, price, units, offers, reason, admittedAt, dueAt, doneAt;
        String state = "new";

        Job copy() {
            Job c = new Job();
            c.id = id;
            c.kind = kind;
            c.shape = shape;
            c.cost = cost;
            c.price = price;
            c.units = units;
            c.offers = offers;
            c.reason = reason;
            c.admittedAt = admittedAt;
            c.dueAt = dueAt;
            c.doneAt = doneAt;
            c.state = state;
            return c;
        }

        boolean over() {
            return state.equals("done") || state.equals("rejected");
        }
    }

    private static final class World {
        int[] server = {4, 20, 3, 1};
        int[][] classes = {{1, 2, 30, 40}, {1, 2, 30, 40}, {1, 2, 30, 40}};
        int[] bucket = {30, 30, 30};
        int[] pass = new int[3];
        int[] worked = new int[3];
        int[][] refused = new int[3][6];
        int[] estimate = {128, 128, 128, 128, 128};
        int now = 0;
        int idle = 0;
        int doneInAll = 0;
        List<Job> jobs = new ArrayList<>();
        List<List<Job>> queues = List.of(new ArrayList<>(), new ArrayList<>(), new ArrayList<>());

        World copy() {
            World c = new World();
            c.server = server.clone();
            c.bucket = bucket.clone();
            c.pass = pass.clone();
            c.worked = worked.clone();
            c.estimate = estimate.clone();
            c.now = now;
            c.idle = idle;
            c.doneInAll = doneInAll;
            for (Job job : jobs) {
                c.jobs.add(job.copy());
            }
            for (int k = 0; k < 3; k++) {
                c.classes[k] = classes[k].clone();
                c.refused[k] = refused[k].clone();
                for (Job job : queues.get(k)) {
                    c.queues.get(k).add(c.jobs.get(job.id));
                }
            }
            return c;
        }

        int expected(int shape) {
            int cost = estimate[shape] >> 4;
            return cost == 0 ? 1 : cost;
        }

        int backlog(int k) {
            return queues.get(k).stream().mapToInt(job -> Math.max(job.price - job.units, 1)).sum();
        }

        int verdict(int k, int price) {
            long s = (long) classes[0][0] + classes[1][0] + classes[2][0];
            long top = (backlog(k) + price) * s;
            long bottom = (long) classes[k][0] * server[0];
            boolean[] against = {
                price > classes[k][3],
                queues.get(k).size() == 8,
                top / bottom > server[1],
                bucket[k] < price};
            for (int i = 0; i < 4; i++) {
                if (against[i]) {
                    return i + 1;
                }
            }
            return 0;
        }

        void refuse(Job job, int reason) {
            refused[job.kind][reason]++;
            job.reason = reason;
            if (job.offers > server[3]) {
                job.state = "rejected";
                return;
            }
            int pause = server[2];
            for (int i = 1; i < job.offers; i++) {
                pause = pause * 2;
            }
            job.state = "delayed";
            job.dueAt = now + pause;
        }

        int consider(Job job) {
            job.price = expected(job.shape);
            job.offers++;
            int k = job.kind;
            int verdict = verdict(k, job.price);
            if (verdict > 0) {
                refuse(job, verdict);
                return verdict;
            }
            bucket[k] -= job.price;
            if (queues.get(k).isEmpty()) {
                int least = Integer.MAX_VALUE;
                for (int o = 0; o < 3; o++) {
                    if (o != k && !queues.get(o).isEmpty()) {
                        least = Math.min(least, pass[o]);
                    }
                }
                if (least != Integer.MAX_VALUE && least > pass[k]) {
                    pass[k] = least;
                }
            }
            queues.get(k).add(job);
            job.state = "waiting";
            job.admittedAt = now;
            return 0;
        }

        void pour(int k, int amount) {
            int burst = classes[k][2];
            bucket[k] = Math.max(bucket[k], Math.min(burst, bucket[k] + amount));
        }

        void tick() {
            for (int k = 0; k < 3; k++) {
                pour(k, classes[k][1]);
            }
            for (Job job : jobs) {
                if (job.state.equals("delayed") && job.dueAt <= now) {
                    consider(job);
                }
            }
            for (int k = 0; k < 3; k++) {
                for (Job job : new ArrayList<>(queues.get(k))) {
                    if (job.units == 0 && now - job.admittedAt >= server[1]) {
                        queues.get(k).remove(job);
                        pour(k, job.price);
                        refuse(job, 5);
                    }
                }
            }
            for (int left = server[0]; left > 0; left--) {
                int k = -1;
                for (int o = 2; o >= 0; o--) {
                    if (!queues.get(o).isEmpty() && (k < 0 || pass[o] <= pass[k])) {
                        k = o;
                    }
                }
                if (k < 0) {
                    idle += left;
                    break;
                }
                serve(k);
            }
            now++;
        }

        void serve(int k) {
            Job job = queues.get(k).get(0);
            job.state = "running";
            job.units++;
            worked[k]++;
            pass[k] += 2520 / classes[k][0];
            if (job.units == job.cost) {
                job.state = "done";
                job.doneAt = now;
                doneInAll++;
                queues.get(k).remove(0);
                estimate[job.shape] += (16 * job.cost - estimate[job.shape]) / 4;
                int change = job.price - job.cost;
                if (change > 0) {
                    pour(k, change);
                } else {
                    bucket[k] += change;
                }
            }
        }

        long rejected() {
            return jobs.stream().filter(job -> job.state.equals("rejected")).count();
        }
    }

    private World world = new World();
    private final List<World> past = new ArrayList<>();
    private String text = "";

    private void remember() {
        past.add(world.copy());
        if (past.size() > 4) {
            past.remove(0);
        }
    }

    private static boolean in(int value, int least, int most) {
        return value >= least && value <= most;
    }

    int set(int setting, int value) {
        if (!in(setting, 0, 3)) {
            return NO_SUCH;
        }
        if (!in(value, SERVER_RANGES[setting][0], SERVER_RANGES[setting][1])) {
            return BAD_VALUE;
        }
        remember();
        int old = world.server[setting];
        world.server[setting] = value;
        return old;
    }

    int setClass(int kind, int setting, int value) {
        if (!in(kind, 0, 2) || !in(setting, 0, 3)) {
            return NO_SUCH;
        }
        if (!in(value, CLASS_RANGES[setting][0], CLASS_RANGES[setting][1])) {
            return BAD_VALUE;
        }
        remember();
        int old = world.classes[kind][setting];
        world.classes[kind][setting] = value;
        return old;
    }

    int offer(int kind, int shape, int cost) {
        return offer(kind, shape, cost, true);
    }

    private int offer(int kind, int shape, int cost, boolean records) {
        if (!in(kind, 0, 2) || !in(shape, 0, 4)) {
            return NO_SUCH;
        }
        if (!in(cost, 1, 60)) {
            return BAD_VALUE;
        }
        if (world.jobs.size() == 32) {
            return TOO_MANY;
        }
        if (records) {
            remember();
        }
        Job job = new Job();
        job.id = world.jobs.size();
        job.kind = kind;
        job.shape = shape;
        job.cost = cost;
        world.jobs.add(job);
        return world.consider(job);
    }

    int advance(int ticks) {
        return advance(ticks, true);
    }

    private int advance(int ticks, boolean records) {
        if (!in(ticks, 1, 99)) {
            return BAD_VALUE;
        }
        if (world.now + ticks > 999) {
            return TOO_MANY;
        }
        if (records) {
            remember();
        }
        int before = world.doneInAll;
        for (int i = 0; i < ticks; i++) {
            world.tick();
        }
        return world.doneInAll - before;
    }

    int append(int character) {
        if (!in(character, 32, 126)) {
            return BAD_VALUE;
        }
        if (text.length() == 80) {
            return TOO_MANY;
        }
        text += (char) character;
        return text.length();
    }

    int clearText() {
        int length = text.length();
        text = "";
        return length;
    }

    int textLength() {
        return text.length();
    }

    int fault() {
        for (int end = 1; end <= text.length(); end++) {
            if (!beginsAText(text.substring(0, end))) {
                return end - 1;
            }
        }
        String[] parts = text.split(";", -1);
        return STEPS.contains(parts[parts.length - 1]) ? NONE : text.length();
    }

    private static boolean beginsAText(String part) {
        String[] parts = part.split(";", -1);
        for (int i = 0; i < parts.length - 1; i++) {
            if (!STEPS.contains(parts[i])) {
                return false;
            }
        }
        return BEGINNINGS.contains(parts[parts.length - 1]);
    }

    int run() {
        if (fault() != NONE) {
            return BAD_TEXT;
        }
        remember();
        int taken = 0;
        for (String step : text.split(";")) {
            int answer;
            if (step.startsWith("+")) {
                answer = advance(Integer.parseInt(step.substring(1)), false);
            } else {
                answer = offer(step.charAt(0) - '0', step.charAt(1) - 'a', Integer.parseInt(step.substring(2)), false);
            }
            if (answer < 0) {
                break;
            }
            taken++;
        }
        return taken;
    }

    int undo() {
        if (past.isEmpty()) {
            return NONE;
        }
        world = past.remove(past.size() - 1);
        return past.size();
    }

    int setting(int setting) {
        return in(setting, 0, 3) ? world.server[setting] : NO_SUCH;
    }

    int classSetting(int kind, int setting) {
        return in(kind, 0, 2) && in(setting, 0, 3) ? world.classes[kind][setting] : NO_SUCH;
    }

    int clock() {
        return world.now;
    }

    int estimate(int shape) {
        return in(shape, 0, 4) ? world.estimate[shape] : NO_SUCH;
    }

    int tokens(int kind) {
        return in(kind, 0, 2) ? world.bucket[kind] : NO_SUCH;
    }

    int pass(int kind) {
        return in(kind, 0, 2) ? world.pass[kind] : NO_SUCH;
    }

    int queued(int kind) {
        return in(kind, 0, 2) ? world.queues.get(kind).size() : NO_SUCH;
    }

    int queuedAt(int kind, int place) {
        if (!in(kind, 0, 2)) {
            return NO_SUCH;
        }
        if (place < 0) {
            return BAD_VALUE;
        }
        List<Job> queue = world.queues.get(kind);
        return place >= queue.size() ? NONE : queue.get(place).id;
    }

    int backlog(int kind) {
        return in(kind, 0, 2) ? world.backlog(kind) : NO_SUCH;
    }

    int worked(int kind) {
        return in(kind, 0, 2) ? world.worked[kind] : NO_SUCH;
    }

    int refused(int kind, int reason) {
        return in(kind, 0, 2) && in(reason, 1, 5) ? world.refused[kind][reason] : NO_SUCH;
    }

    int idle() {
        return world.idle;
    }

    float workShare(int kind) {
        if (!in(kind, 0, 2)) {
            return -1.0f;
        }
        float all = world.worked[0] + world.worked[1] + world.worked[2];
        return all == 0.0f ? 0.0f : (float) world.worked[kind] / all;
    }

    int requests() {
        return world.jobs.size();
    }

    private Job job(int request) {
        return in(request, 0, world.jobs.size() - 1) ? world.jobs.get(request) : null;
    }

    int state(int request) {
        Job job = job(request);
        return job == null ? NO_SUCH : List.of("waiting", "running", "done", "delayed", "rejected").indexOf(job.state);
    }

    int price(int request) {
        return job(request) == null ? NO_SUCH : job(request).price;
    }

    int done(int request) {
        return job(request) == null ? NO_SUCH : job(request).units;
    }

    int offers(int request) {
        return job(request) == null ? NO_SUCH : job(request).offers;
    }

    int reason(int request) {
        return job(request) == null ? NO_SUCH : job(request).reason;
    }

    int when(int request) {
        Job job = job(request);
        if (job == null) {
            return NO_SUCH;
        }
        return job.state.equals("done") ? job.doneAt : job.state.equals("delayed") ? job.dueAt : NONE;
    }

    int wouldRefuse(int kind, int shape) {
        if (!in(kind, 0, 2) || !in(shape, 0, 4)) {
            return NO_SUCH;
        }
        return world.verdict(kind, world.expected(shape));
    }

    int ticksLeft() {
        return ticksUntilOver(world.copy());
    }

    private static int ticksUntilOver(World copy) {
        int ticks = 0;
        while (!copy.jobs.stream().allMatch(Job::over)) {
            if (ticks == 400) {
                return NONE;
            }
            copy.tick();
            ticks++;
        }
        return ticks;
    }

    int ticksIf(int capacity) {
        if (!in(capacity, 1, 20)) {
            return BAD_VALUE;
        }
        World copy = world.copy();
        copy.server[0] = capacity;
        return ticksUntilOver(copy);
    }

    int leastCapacity() {
        for (int capacity = 1; capacity <= 20; capacity++) {
            World copy = world.copy();
            copy.server[0] = capacity;
            if (ticksUntilOver(copy) != NONE && copy.rejected() == world.rejected()) {
                return capacity;
            }
        }
        return NONE;
    }

    int finish(int request) {
        if (job(request) == null) {
            return NO_SUCH;
        }
        World copy = world.copy();
        Job job = copy.jobs.get(request);
        for (int i = 0; i < 400; i++) {
            if (!job.over()) {
                copy.tick();
            }
        }
        return job.state.equals("done") ? job.doneAt : NONE;
    }
}
