import java.util.Map;
import java.util.TreeMap;

/** Long runs of calls, each answer compared with that of the model, and all that can be asked compared now and then. */
public final class ModelTest {
    private static final int RUNS = 2500;
    private static final int ACTIONS = 60;
    private static final Map<String, Integer> SEEN = new TreeMap<>();

    private final AdmissionControl real = new AdmissionControl();
    private final Model model = new Model();
    private final Numbers numbers;
    private final StringBuilder told = new StringBuilder();

    private ModelTest(int run) {
        numbers = new Numbers(run + 1);
    }

    public static void main(String[] args) {
        for (int run = 0; run < RUNS && Check.wrongSoFar() == 0; run++) {
            new ModelTest(run).play();
        }
        for (String rare : new String[] {
            "reason 1", "reason 2", "reason 3", "reason 4", "reason 5", "state 0", "state 1", "state 2", "state 3",
            "state 4", "fifth offer", "ticksLeft NONE", "leastCapacity NONE", "leastCapacity above 1", "finish NONE",
            "finish above 999", "bucket below 0", "bucket above BURST", "32 requests", "clock 999", "queue of 8",
            "run ended early", "run whole", "text of 80", "fault inside", "fault at the end", "no fault"}) {
            Check.holds("the runs reach: " + rare, SEEN.getOrDefault(rare, 0) >= 5);
        }
        if (args.length > 0) {
            System.out.println(SEEN);
        }
        Check.end("ModelTest");
    }

    private void play() {
        settle();
        for (int i = 0; i < ACTIONS && Check.wrongSoFar() == 0; i++) {
            act();
            compareText();
            if (numbers.below(3) == 0) {
                compareAll();
            }
        }
        compareAll();
        if (Check.wrongSoFar() > 0) {
            System.out.println("after:" + told);
        }
    }

    /** A different server for each run: some kinds of refusal come only with unusual settings. */
    private void settle() {
        int kindOfRun = numbers.below(6);
        if (kindOfRun == 0) {
            return;
        }
        if (kindOfRun <= 2) {
            set(0, numbers.oneOf(1, 1, 2, 3));
            set(1, numbers.oneOf(1, 2, 5, 60));
            set(2, numbers.oneOf(1, 2, 20));
            set(3, numbers.between(0, 4));
        }
        if (kindOfRun == 4) {
            set(0, numbers.oneOf(4, 20));
            set(1, 60);
        }
        if (kindOfRun == 3) {
            set(0, 1);
            set(1, 60);
            set(2, 20);
            set(3, 4);
        }
        for (int kind = 0; kind < 3; kind++) {
            if (kindOfRun >= 4 || numbers.below(3) == 0) {
                setClass(kind, 0, numbers.oneOf(1, 2, 5, 7, 9));
                setClass(kind, 1, numbers.oneOf(0, 1, 5, 20));
                setClass(kind, 2, numbers.oneOf(1, 10, 30, 99));
                setClass(kind, 3, numbers.oneOf(7, 8, 20, 99));
            }
        }
        if (numbers.below(2) == 0) {
            advance(numbers.between(1, 20));
        }
    }

    private void act() {
        switch (numbers.below(12)) {
            case 0:
                set(numbers.between(0, 3), numbers.oneOf(0, 1, 2, 3, 4, 5, 20, 21, 60, 61));
                break;
            case 1:
                setClass(numbers.between(0, 2), numbers.between(0, 3), numbers.oneOf(0, 1, 2, 9, 10, 20, 21, 99, 100));
                break;
            case 2:
                set(numbers.oneOf(-1, 0, 3, 4), numbers.between(-1, 62));
                setClass(numbers.oneOf(-1, 0, 2, 3), numbers.oneOf(-1, 0, 3, 4), numbers.between(-1, 101));
                break;
            case 3:
            case 4:
                offerSome();
                break;
            case 5:
                if (model.requests() < 20) {
                    offerSome();
                }
                break;
            case 6:
            case 7:
                advance(numbers.oneOf(1, 1, 1, 2, 3, 5, 10));
                break;
            case 8:
                advance(numbers.oneOf(0, 1, 20, 50, 98, 99, 99, 99, 100));
                break;
            case 9:
                writeText();
                break;
            case 10:
                toTheLastTick();
                break;
            default:
                undo();
                break;
        }
    }

    private void set(int setting, int value) {
        tell("set", setting, value);
        same("set", real.set(setting, value), model.set(setting, value));
    }

    private void setClass(int kind, int setting, int value) {
        tell("setClass", kind, setting, value);
        same("setClass", real.setClass(kind, setting, value), model.setClass(kind, setting, value));
    }

    private void offerSome() {
        int kind = numbers.between(0, 2);
        for (int left = numbers.oneOf(1, 1, 2, 9); left > 0; left--) {
            int shape = numbers.between(0, 4);
            int cost = numbers.oneOf(1, 2, 3, 8, 12, 20, 40, 60);
            if (numbers.below(40) == 0) {
                kind = numbers.between(-1, 3);
                shape = numbers.between(-1, 5);
                cost = numbers.oneOf(-1, 0, 1, 60, 61);
            }
            tell("offer", kind, shape, cost);
            same("offer", real.offer(kind, shape, cost), model.offer(kind, shape, cost));
        }
    }

    private void advance(int ticks) {
        tell("advance", ticks);
        same("advance", real.advance(ticks), model.advance(ticks));
    }

    private void writeText() {
        if (numbers.below(4) > 0) {
            clearText();
        }
        StringBuilder text = new StringBuilder();
        for (int steps = numbers.oneOf(1, 2, 5, 30); steps > 0; steps--) {
            if (numbers.below(3) == 0) {
                text.append('+').append(numbers.oneOf(1, 2, 9, 10, 50, 99));
            } else {
                text.append(numbers.between(0, 2)).append((char) ('a' + numbers.between(0, 4)));
                text.append(numbers.oneOf(1, 5, 6, 7, 9, 10, 59, 60));
            }
            text.append(steps > 1 ? ";" : "");
        }
        if (numbers.below(3) == 0) {
            char sign = (char) numbers.oneOf('0', '1', '3', 'a', 'f', '+', ';', ' ', '6', 32, 126, 31, 127);
            text.insert(numbers.below(text.length() + 1), sign);
        }
        for (int place = 0; place < text.length(); place++) {
            int sign = text.charAt(place);
            tell("append", sign);
            same("append", real.append(sign), model.append(sign));
            if (numbers.below(4) == 0) {
                compareText();
            }
        }
        if (numbers.below(9) == 0) {
            clearText();
        }
        runText();
    }

    private void clearText() {
        tell("clearText");
        int length = model.clearText();
        same("clearText", real.clearText(), length);
        see(length == 80 ? "text of 80" : "shorter text");
    }

    private void runText() {
        tell("run");
        int taken = model.run();
        same("run", real.run(), taken);
        if (taken >= 0) {
            see(taken == 0 || model.clock() > 900 || model.requests() == 32 ? "run ended early" : "run whole");
        }
    }

    /** Seldom, as little can happen after it. */
    private void toTheLastTick() {
        if (numbers.below(30) > 0) {
            return;
        }
        for (int calls = 0; calls < 11 && model.clock() < 999; calls++) {
            advance(Math.min(99, 999 - model.clock()));
        }
        advance(1);
    }

    private void undo() {
        for (int left = numbers.oneOf(1, 1, 2, 5); left > 0; left--) {
            tell("undo");
            same("undo", real.undo(), model.undo());
        }
    }

    private void compareText() {
        int fault = model.fault();
        same("fault", real.fault(), fault);
        see(fault == Model.NONE ? "no fault" : fault == model.textLength() ? "fault at the end" : "fault inside");
    }

    private void compareAll() {
        same("clock", real.clock(), model.clock());
        same("idle", real.idle(), model.idle());
        same("requests", real.requests(), model.requests());
        for (int i = -1; i <= 5; i++) {
            same("setting", real.setting(i), model.setting(i));
            same("estimate", real.estimate(i), model.estimate(i));
        }
        for (int kind = -1; kind <= 3; kind++) {
            compareClass(kind);
        }
        for (int request = -1; request <= model.requests(); request++) {
            compareRequest(request);
        }
        same("ticksLeft", real.ticksLeft(), model.ticksLeft());
        same("leastCapacity", real.leastCapacity(), model.leastCapacity());
        int capacity = numbers.between(0, 21);
        same("ticksIf", real.ticksIf(capacity), model.ticksIf(capacity));
        see(model.ticksLeft() == Model.NONE ? "ticksLeft NONE" : "ticksLeft");
        int least = model.leastCapacity();
        see(least == Model.NONE ? "leastCapacity NONE" : least > 1 ? "leastCapacity above 1" : "leastCapacity 1");
        see("clock " + model.clock());
        see(model.requests() + " requests");
    }

    private void compareClass(int kind) {
        same("tokens", real.tokens(kind), model.tokens(kind));
        same("pass", real.pass(kind), model.pass(kind));
        same("queued", real.queued(kind), model.queued(kind));
        same("backlog", real.backlog(kind), model.backlog(kind));
        same("worked", real.worked(kind), model.worked(kind));
        Check.due("workShare" + kind, real.workShare(kind), model.workShare(kind));
        for (int i = -1; i <= 9; i++) {
            same("queuedAt", real.queuedAt(kind, i), model.queuedAt(kind, i));
        }
        for (int i = -1; i <= 6; i++) {
            same("classSetting", real.classSetting(kind, i), model.classSetting(kind, i));
            same("refused", real.refused(kind, i), model.refused(kind, i));
            same("wouldRefuse", real.wouldRefuse(kind, i), model.wouldRefuse(kind, i));
        }
        see(model.queued(kind) == 8 ? "queue of 8" : "shorter queue");
        see(model.tokens(kind) < 0 && kind >= 0 && kind < 3 ? "bucket below 0" : "bucket");
        see(model.tokens(kind) > model.classSetting(kind, 2) ? "bucket above BURST" : "bucket");
    }

    private void compareRequest(int request) {
        same("state", real.state(request), model.state(request));
        same("price", real.price(request), model.price(request));
        same("done", real.done(request), model.done(request));
        same("offers", real.offers(request), model.offers(request));
        same("reason", real.reason(request), model.reason(request));
        same("when", real.when(request), model.when(request));
        int finish = model.finish(request);
        same("finish", real.finish(request), finish);
        see("state " + model.state(request));
        see("reason " + model.reason(request));
        see(finish == Model.NONE ? "finish NONE" : finish > 999 ? "finish above 999" : "finish");
        see(model.offers(request) == 5 ? "fifth offer" : "fewer offers");
    }

    private void same(String call, int got, int want) {
        Check.due(call, got, want);
    }

    private void tell(String call, int... arguments) {
        told.append(' ').append(call).append(java.util.Arrays.toString(arguments));
    }

    private static void see(String what) {
        SEEN.merge(what, 1, Integer::sum);
    }
}
