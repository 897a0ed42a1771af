import java.util.function.IntBinaryOperator;

/** The bounds of promises 13 to 30; 11 and 12 stand in EdgesOfSettingsTest. */
public final class EdgesOfQuestionsTest implements Names {
    private static final int[] NO_CLASSES = {-1, 3, Integer.MIN_VALUE, Integer.MAX_VALUE};

    public static void main(String[] args) {
        Check.each(EdgesOfQuestionsTest.class);
        Check.end("EdgesOfQuestionsTest");
    }

    // ---- server and classes

    static void clockIs0To999() {
        AdmissionControl x = new AdmissionControl();
        Check.due("clock", x.clock(), 0);
        x.advance(1);
        Check.due("clock", x.clock(), 1);
        for (int i = 0; i < 10; i++) {
            x.advance(99);
        }
        Check.due("clock", x.clock(), 991);
        x.advance(9);
        Check.due("clock after an error", x.clock(), 991);
        x.advance(8);
        Check.due("clock", x.clock(), 999);
        x.advance(1);
        Check.due("clock after an error", x.clock(), 999);
    }

    static void estimateTakesTheShapes0To4() {
        for (int no : new int[] {-1, 5, Integer.MIN_VALUE, Integer.MAX_VALUE}) {
            Twins.unchanged("estimate(" + no + ")", x -> x.estimate(no), NO_SUCH);
        }
        AdmissionControl x = new AdmissionControl();
        x.set(CAPACITY, 20);
        for (int shape = 0; shape < 5; shape++) {
            x.offer(shape % 3, shape, shape + 1);
        }
        x.advance(1);
        int[] estimates = {100, 104, 108, 112, 116}; // 128 + (16 * cost - 128) / 4
        for (int shape = 0; shape < 5; shape++) {
            Check.due("estimate(" + shape + ")", x.estimate(shape), estimates[shape]);
        }
    }

    /** Classes 0, 1 and 2 have 1, 2 and 3 requests; class 0 is the first to get units. */
    private static AdmissionControl withQueuesOf1And2And3() {
        AdmissionControl x = new AdmissionControl();
        int[] kinds = {0, 1, 1, 2, 2, 2};
        for (int kind : kinds) {
            Check.due("offer", x.offer(kind, 0, 60), 0);
        }
        return x;
    }

    private static void dueOfClasses(String call, AdmissionControl x, IntBinaryOperator ask, int... want) {
        for (int kind = 0; kind < 3; kind++) {
            Check.due(call + "(" + kind + ")", ask.applyAsInt(kind, 0), want[kind]);
        }
        for (int no : NO_CLASSES) {
            Check.due(call + "(" + no + ")", ask.applyAsInt(no, 0), NO_SUCH);
        }
    }

    static void tokensTakesTheClasses0To2() {
        AdmissionControl x = withQueuesOf1And2And3();
        dueOfClasses("tokens", x, (kind, none) -> x.tokens(kind), 22, 14, 6);
    }

    /** Units in the order 0, 1, 2, 1, and then 0, 1, 2, 2. */
    static void passTakesTheClasses0To2() {
        AdmissionControl x = withQueuesOf1And2And3();
        x.setClass(1, SHARE, 2);
        x.advance(1);
        dueOfClasses("pass", x, (kind, none) -> x.pass(kind), 2520, 2520, 2520);
        x.setClass(2, SHARE, 9);
        x.advance(1);
        dueOfClasses("pass", x, (kind, none) -> x.pass(kind), 5040, 3780, 2520 + 2 * 280);
    }

    static void queuedTakesTheClasses0To2() {
        AdmissionControl x = withQueuesOf1And2And3();
        dueOfClasses("queued", x, (kind, none) -> x.queued(kind), 1, 2, 3);
    }

    static void queuedIs0To8() {
        AdmissionControl x = withFullQueue();
        Check.due("queued", x.queued(0), 8);
        Check.due("a ninth request", x.offer(0, 0, 1), 2);
        Check.due("queued", x.queued(0), 8);
        Check.due("queued of an empty queue", x.queued(1), 0);
        Check.due("done", x.advance(1), 8);
        Check.due("queued", x.queued(0), 0);
    }

    private static AdmissionControl withFullQueue() {
        AdmissionControl x = new AdmissionControl();
        x.set(CAPACITY, 20);
        x.set(PATIENCE, 60);
        x.setClass(0, RATE, 20);
        x.setClass(0, BURST, 99);
        x.advance(3);
        for (int i = 0; i < 8; i++) {
            Check.due("queued", x.queued(0), i);
            Check.due("offer", x.offer(0, i % 5, 2), 0);
        }
        return x;
    }

    static void queuedAtTakesTheClasses0To2() {
        AdmissionControl x = withQueuesOf1And2And3();
        dueOfClasses("queuedAt", x, (kind, place) -> x.queuedAt(kind, place), 0, 1, 3);
    }

    static void queuedAtTakesThePlacesFrom0ToTheLengthOfTheQueue() {
        AdmissionControl x = withQueuesOf1And2And3();
        int[][] rows = {{0}, {1, 2}, {3, 4, 5}};
        for (int kind = 0; kind < 3; kind++) {
            for (int place = 0; place <= 9; place++) {
                int want = place < rows[kind].length ? rows[kind][place] : NONE;
                Check.due("queuedAt(" + kind + ", " + place + ")", x.queuedAt(kind, place), want);
            }
            Check.due("queuedAt(, 2^31 - 1)", x.queuedAt(kind, Integer.MAX_VALUE), NONE);
        }
        AdmissionControl full = withFullQueue();
        Check.due("the last place of a full queue", full.queuedAt(0, 7), 7);
        Check.due("a place behind a full queue", full.queuedAt(0, 8), NONE);
        Check.due("the first place of an empty queue", full.queuedAt(1, 0), NONE);
        Twins.unchanged("queuedAt(0, -1)", y -> y.queuedAt(0, -1), BAD_VALUE);
        Twins.unchanged("queuedAt(0, -2^31)", y -> y.queuedAt(0, Integer.MIN_VALUE), BAD_VALUE);
        Twins.unchanged("queuedAt(0, 8)", y -> y.queuedAt(0, 8), NONE);
    }

    static void queuedAtLooksForTheClassThenAtThePlace() {
        Twins.unchanged("no class, a place below 0", x -> x.queuedAt(3, -1), NO_SUCH);
        Twins.unchanged("no class, a place beyond the queue", x -> x.queuedAt(-1, 99), NO_SUCH);
        Twins.unchanged("a place below 0 of an empty queue", x -> x.queuedAt(2, -1), BAD_VALUE);
    }

    static void theQueueMovesUpWhenTheFirstIsDone() {
        AdmissionControl x = withFullQueue();
        x.set(CAPACITY, 3);
        x.advance(1);
        for (int place = 0; place < 8; place++) {
            Check.due("queuedAt(0, " + place + ")", x.queuedAt(0, place), place < 7 ? place + 1 : NONE);
        }
    }

    static void backlogTakesTheClasses0To2() {
        AdmissionControl x = withQueuesOf1And2And3();
        dueOfClasses("backlog", x, (kind, none) -> x.backlog(kind), 8, 16, 24);
    }

    static void backlogIsThePriceMinusTheUnitsButAtLeast1() {
        AdmissionControl x = new AdmissionControl();
        x.set(CAPACITY, 1);
        x.set(PATIENCE, 60);
        x.offer(2, 0, 60);
        x.offer(2, 1, 60);
        int[] backlogs = {16, 15, 14, 13, 12, 11, 10, 9, 9, 9, 9};
        for (int units = 0; units < backlogs.length; units++) {
            Check.due("backlog after " + units + " units", x.backlog(2), backlogs[units]);
            x.advance(1);
        }
        x.set(CAPACITY, 20);
        x.advance(2);
        Check.due("units", x.done(0), 51);
        Check.due("backlog", x.backlog(2), 9);
    }

    static void workedTakesTheClasses0To2() {
        AdmissionControl x = withQueuesOf1And2And3();
        dueOfClasses("worked", x, (kind, none) -> x.worked(kind), 0, 0, 0);
        x.advance(2);
        dueOfClasses("worked", x, (kind, none) -> x.worked(kind), 3, 3, 2);
    }

    static void refusedTakesTheClasses0To2AndTheReasons1To5() {
        for (int no : new int[] {0, 6, -1, Integer.MIN_VALUE, Integer.MAX_VALUE}) {
            for (int kind = 0; kind < 3; kind++) {
                int of = kind;
                Twins.unchanged("refused(" + of + ", " + no + ")", x -> x.refused(of, no), NO_SUCH);
            }
        }
        for (int no : NO_CLASSES) {
            Twins.unchanged("refused(" + no + ", 1)", x -> x.refused(no, 1), NO_SUCH);
            Twins.unchanged("refused(" + no + ", 0)", x -> x.refused(no, 0), NO_SUCH);
        }
    }

    /** Class 1: one refusal for the reason 1, two for 2, three for 3, four for 4 and seven for 5. */
    static void refusedCountsEachReasonByItself() {
        AdmissionControl x = new AdmissionControl();
        x.set(RETRIES, 0);
        x.set(PATIENCE, 60);
        x.setClass(1, RATE, 20);
        x.setClass(1, BURST, 70);
        x.advance(2);
        x.setClass(1, LIMIT, 7);
        dueRefusals(x, 1, 1);
        x.setClass(1, LIMIT, 8);
        x.set(PATIENCE, 5);
        dueRefusals(x, 3, 3);
        x.set(CAPACITY, 20);
        x.set(PATIENCE, 60);
        for (int i = 0; i < 8; i++) {
            Check.due("offer", x.offer(1, 0, 60), 0);
        }
        Check.due("tokens: 70 - 64", x.tokens(1), 6);
        dueRefusals(x, 2, 2);
        x.setClass(1, RATE, 0);
        x.set(CAPACITY, 1);
        x.set(PATIENCE, 2);
        x.advance(3);
        Check.due("tokens: 6 + 7 * 8", x.tokens(1), 62);
        x.set(PATIENCE, 60);
        x.set(CAPACITY, 20);
        for (int i = 0; i < 7; i++) {
            Check.due("offer", x.offer(1, 1, 60), 0);
        }
        Check.due("tokens: 62 - 56", x.tokens(1), 6);
        x.setClass(1, SHARE, 9);
        x.advance(3);
        Check.due("the first request is done", x.queued(1), 7);
        dueRefusals(x, 4, 4);
        int[] refusals = {1, 2, 3, 4, 7};
        for (int reason = 1; reason <= 5; reason++) {
            Check.due("refused(1, " + reason + ")", x.refused(1, reason), refusals[reason - 1]);
            Check.due("refused(0, " + reason + ")", x.refused(0, reason), 0);
            Check.due("refused(2, " + reason + ")", x.refused(2, reason), 0);
        }
    }

    private static void dueRefusals(AdmissionControl x, int reason, int times) {
        for (int time = 1; time <= times; time++) {
            Check.due("offer", x.offer(1, 2, 60), reason);
            Check.due("refused(1, " + reason + ")", x.refused(1, reason), time);
        }
    }

    static void refusedCountsEachOfTheRefusalsOfARequest() {
        AdmissionControl x = new AdmissionControl();
        x.set(RETRIES, 4);
        x.set(BACKOFF, 1);
        x.setClass(2, LIMIT, 7);
        x.offer(2, 0, 1);
        int[] afterTicks = {1, 2, 2, 3, 3, 3, 3, 4};
        for (int tick = 0; tick < afterTicks.length; tick++) {
            x.advance(1);
            Check.due("refusals after the tick " + tick, x.refused(2, 1), tick == 0 ? 1 : afterTicks[tick]);
        }
    }

    static void idleCountsUnitsNotTicks() {
        AdmissionControl x = new AdmissionControl();
        Check.due("idle", x.idle(), 0);
        x.advance(1);
        Check.due("idle", x.idle(), 4);
        x.offer(1, 0, 3);
        x.advance(1);
        Check.due("idle", x.idle(), 5);
        x.offer(1, 0, 4);
        x.advance(1);
        Check.due("idle", x.idle(), 5);
    }

    static void workShareIs0IfNoUnitWasDone() {
        AdmissionControl x = new AdmissionControl();
        for (int kind = 0; kind < 3; kind++) {
            Check.due("workShare(" + kind + ") of a new server", x.workShare(kind), 0.0f);
        }
        x.advance(9);
        x.offer(1, 0, 60);
        for (int kind = 0; kind < 3; kind++) {
            Check.due("workShare(" + kind + ") of idle units", x.workShare(kind), 0.0f);
        }
        x.set(CAPACITY, 1);
        x.advance(1);
        Check.due("workShare(0)", x.workShare(0), 0.0f);
        Check.due("workShare(1) of one unit", x.workShare(1), 1.0f);
    }

    static void workShareIsMinus1IfThereIsNoSuchClass() {
        for (int no : NO_CLASSES) {
            Check.due("workShare(" + no + ") of a new server", new AdmissionControl().workShare(no), -1.0f);
            Check.due("workShare(" + no + ") of a busy server", Twins.busy().workShare(no), -1.0f);
            Twins.unchanged("workShare(" + no + ")", x -> (int) x.workShare(no), -1);
        }
    }

    /** The floats next to 1 / 3 and 2 / 3 stand here by their bits. */
    static void workShareIsADivisionOfFloats() {
        AdmissionControl x = new AdmissionControl();
        x.offer(0, 0, 1);
        x.offer(2, 0, 2);
        x.advance(1);
        Check.due("1 of 3 units", x.workShare(0), Float.intBitsToFloat(0x3eaaaaab));
        Check.due("0 of 3 units", x.workShare(1), 0.0f);
        Check.due("2 of 3 units", x.workShare(2), Float.intBitsToFloat(0x3f2aaaab));
    }

    // ---- requests

    static void requestsIs0To32() {
        AdmissionControl x = new AdmissionControl();
        x.setClass(0, LIMIT, 7);
        for (int i = 0; i < 32; i++) {
            Check.due("requests", x.requests(), i);
            x.offer(0, 0, 1);
        }
        Check.due("requests", x.requests(), 32);
        Check.due("offer", x.offer(0, 0, 1), TOO_MANY);
        Check.due("requests", x.requests(), 32);
        x.advance(20);
        Check.due("requests after they were offered again", x.requests(), 32);
    }

    private static int ask(AdmissionControl x, int question, int request) {
        switch (question) {
            case 0: return x.state(request);
            case 1: return x.price(request);
            case 2: return x.done(request);
            case 3: return x.offers(request);
            case 4: return x.reason(request);
            default: return x.when(request);
        }
    }

    private static void dueOfRequest(String at, AdmissionControl x, int request, int... want) {
        String[] calls = {"state", "price", "done", "offers", "reason", "when"};
        for (int question = 0; question < calls.length; question++) {
            Check.due(at + ": " + calls[question], ask(x, question, request), want[question]);
        }
    }

    private static void dueNoRequest(int question) {
        for (int no : new int[] {-1, Integer.MIN_VALUE, Integer.MAX_VALUE, 32, 31, 5}) {
            Twins.unchanged("question " + question + " of " + no, x -> ask(x, question, no), NO_SUCH);
        }
        AdmissionControl x = new AdmissionControl();
        x.setClass(0, LIMIT, 7);
        for (int count = 0; count <= 32; count++) {
            Check.due("question " + question + " of " + count + " requests", ask(x, question, count), NO_SUCH);
            Check.holds("an answer about the last request", count == 0 || ask(x, question, count - 1) >= 0);
            x.offer(0, 0, 1);
        }
    }

    static void stateTakesTheRequestsFrom0() {
        dueNoRequest(0);
    }

    static void priceTakesTheRequestsFrom0() {
        dueNoRequest(1);
    }

    static void doneTakesTheRequestsFrom0() {
        dueNoRequest(2);
    }

    static void offersTakesTheRequestsFrom0() {
        dueNoRequest(3);
    }

    static void reasonTakesTheRequestsFrom0() {
        dueNoRequest(4);
    }

    static void whenTakesTheRequestsFrom0() {
        dueNoRequest(5);
    }

    static void aRequestThatIsAdmittedRunsAndIsDone() {
        AdmissionControl x = new AdmissionControl();
        x.advance(7);
        x.offer(0, 0, 5);
        dueOfRequest("no unit", x, 0, WAITING, 8, 0, 1, 0, NONE);
        x.advance(1);
        dueOfRequest("4 of 5 units", x, 0, RUNNING, 8, 4, 1, 0, NONE);
        x.advance(1);
        dueOfRequest("5 of 5 units", x, 0, DONE, 8, 5, 1, 0, 8);
        x.advance(50);
        dueOfRequest("much later", x, 0, DONE, 8, 5, 1, 0, 8);
    }

    static void aRequestThatIsRefusedIsDelayedAndRejected() {
        AdmissionControl x = new AdmissionControl();
        x.advance(7);
        x.setClass(0, LIMIT, 7);
        x.offer(0, 0, 5);
        dueOfRequest("refused once", x, 0, DELAYED, 8, 0, 1, 1, 10);
        x.advance(3);
        dueOfRequest("not offered again yet", x, 0, DELAYED, 8, 0, 1, 1, 10);
        x.advance(1);
        dueOfRequest("refused twice", x, 0, REJECTED, 8, 0, 2, 1, NONE);
        x.advance(50);
        dueOfRequest("much later", x, 0, REJECTED, 8, 0, 2, 1, NONE);
    }

    /** BACKOFF 1: offered at 0, 1, 3, 7 and 15, with another reason each time. */
    static void theLatestReasonIsTold() {
        AdmissionControl x = new AdmissionControl();
        x.set(RETRIES, 4);
        x.set(BACKOFF, 1);
        x.set(CAPACITY, 1);
        x.set(PATIENCE, 60);
        x.setClass(1, RATE, 0);
        x.offer(1, 1, 60);
        Check.due("14 tokens for two others", x.offer(1, 1, 60), 0);
        x.setClass(1, LIMIT, 7);
        x.offer(1, 0, 60);
        dueOfRequest("the LIMIT", x, 2, DELAYED, 8, 0, 1, 1, 1);
        x.setClass(1, LIMIT, 40);
        x.set(PATIENCE, 20);
        x.advance(2);
        dueOfRequest("the wait", x, 2, DELAYED, 8, 0, 2, 3, 3);
        x.set(PATIENCE, 60);
        x.set(CAPACITY, 2);
        x.advance(2);
        dueOfRequest("admitted", x, 2, WAITING, 8, 0, 3, 3, NONE);
        Check.due("tokens", x.tokens(1), 6);
        x.set(PATIENCE, 1);
        x.advance(1);
        dueOfRequest("it waited too long", x, 2, DELAYED, 8, 0, 3, 5, 4 + 4);
        x.set(PATIENCE, 60);
        x.advance(3);
        Check.due("6 tokens, 16 back from two, 8 paid by one again", x.tokens(1), 14);
        Check.due("offer", x.offer(1, 1, 60), 0);
        Check.due("tokens", x.tokens(1), 6);
        x.advance(1);
        dueOfRequest("the tokens", x, 2, DELAYED, 8, 0, 4, 4, 8 + 8);
        x.advance(7);
        dueOfRequest("not offered again yet", x, 2, DELAYED, 8, 0, 4, 4, 8 + 8);
        x.setClass(1, LIMIT, 7);
        x.advance(1);
        dueOfRequest("the LIMIT again", x, 2, REJECTED, 8, 0, 5, 1, NONE);
    }

    /** Request 1 is refused for the price 8, and again for the price 21, which request 0 made. */
    static void thePriceIsThatOfTheLatestOffer() {
        AdmissionControl x = new AdmissionControl();
        x.set(CAPACITY, 20);
        x.offer(0, 0, 60);
        x.setClass(1, LIMIT, 7);
        x.offer(1, 0, 2);
        x.setClass(1, LIMIT, 20);
        Check.due("price", x.price(1), 8);
        x.advance(3);
        Check.due("estimate", x.estimate(0), 336);
        Check.due("price before it is offered again", x.price(1), 8);
        x.advance(1);
        Check.due("price of the second offer", x.price(1), 21);
        Check.due("reason of the second offer", x.reason(1), 1);
        Check.due("price of the request that is DONE", x.price(0), 8);
    }
}
