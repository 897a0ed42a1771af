/** Promises 1 to 5: a new object, set, setClass, offer, advance. */
public final class ActionsTest {
    private static final int NO_SUCH = -100001, BAD_VALUE = -100002, TOO_MANY = -100004, NONE = -100005;
    private static final int CAPACITY = 0, PATIENCE = 1, BACKOFF = 2, RETRIES = 3;
    private static final int SHARE = 0, RATE = 1, BURST = 2, LIMIT = 3;
    private static final int WAITING = 0, RUNNING = 1, DONE = 2, DELAYED = 3, REJECTED = 4;

    public static void main(String[] args) {
        promise1NewObject();
        promise2Set();
        promise3SetClass();
        promise4Admission();
        promise4PriceAboveLimit();
        promise4QueueIsFull();
        promise4ExpectedWait();
        promise4Tokens();
        promise4DelayedOrRejected();
        promise4PassCatchesUp();
        promise4Errors();
        promise5Errors();
        promise5Buckets();
        promise5BucketAfterWork();
        promise5OfferedAgain();
        promise5OrderOfOffers();
        promise5Impatience();
        promise5ImpatienceInOrder();
        promise5OrderInATick();
        promise5SharesOfWork();
        promise5SeveralDoneInATick();
        promise5EstimatesAreLearned();
        Check.end("ActionsTest");
    }

    private static void promise1NewObject() {
        AdmissionControl x = new AdmissionControl();
        int[] settings = {4, 20, 3, 1};
        int[] classSettings = {1, 2, 30, 40};
        for (int i = 0; i < 4; i++) {
            Check.due("first setting " + i, x.setting(i), settings[i]);
            for (int kind = 0; kind < 3; kind++) {
                Check.due("first setting of a class " + i, x.classSetting(kind, i), classSettings[i]);
            }
        }
        for (int kind = 0; kind < 3; kind++) {
            Check.due("first tokens", x.tokens(kind), 30);
            Check.due("first pass", x.pass(kind), 0);
            Check.due("first queue", x.queued(kind), 0);
            Check.due("first work", x.worked(kind), 0);
            Check.due("first share of the work", x.workShare(kind), 0.0f);
            for (int reason = 1; reason <= 5; reason++) {
                Check.due("first refusals", x.refused(kind, reason), 0);
            }
        }
        for (int shape = 0; shape < 5; shape++) {
            Check.due("first estimate", x.estimate(shape), 128);
        }
        Check.due("first clock", x.clock(), 0);
        Check.due("first idle units", x.idle(), 0);
        Check.due("first requests", x.requests(), 0);
        Check.due("undo of nothing", x.undo(), NONE);
        Check.due("fault of the empty text", x.fault(), 0);
        Check.due("length of the empty text", x.clearText(), 0);
    }

    private static void promise2Set() {
        int[] first = {4, 20, 3, 1};
        int[] least = {1, 1, 1, 0};
        int[] most = {20, 60, 20, 4};
        for (int i = 0; i < 4; i++) {
            AdmissionControl x = new AdmissionControl();
            Check.due("set below the range", x.set(i, least[i] - 1), BAD_VALUE);
            Check.due("set above the range", x.set(i, most[i] + 1), BAD_VALUE);
            Check.due("set to the greatest int", x.set(i, Integer.MAX_VALUE), BAD_VALUE);
            Check.due("undo after errors", x.undo(), NONE);
            Check.due("set to the least", x.set(i, least[i]), first[i]);
            Check.due("set to the most", x.set(i, most[i]), least[i]);
            for (int other = 0; other < 4; other++) {
                Check.due("setting " + other + " after set " + i, x.setting(other), other == i ? most[i] : first[other]);
            }
            Check.due("set to the same", x.set(i, most[i]), most[i]);
            Check.due("undo of a set that changed nothing", x.undo(), 2);
        }
        AdmissionControl x = new AdmissionControl();
        Check.due("set(-1)", x.set(-1, 1), NO_SUCH);
        Check.due("set(4)", x.set(4, 1), NO_SUCH);
        Check.due("set(4), bad value", x.set(4, -1), NO_SUCH);
        Check.due("undo after errors", x.undo(), NONE);
    }

    private static void promise3SetClass() {
        int[] first = {1, 2, 30, 40};
        int[] least = {1, 0, 1, 1};
        int[] most = {9, 20, 99, 99};
        for (int i = 0; i < 4; i++) {
            for (int kind = 0; kind < 3; kind++) {
                AdmissionControl x = new AdmissionControl();
                Check.due("setClass below the range", x.setClass(kind, i, least[i] - 1), BAD_VALUE);
                Check.due("setClass above the range", x.setClass(kind, i, most[i] + 1), BAD_VALUE);
                Check.due("undo after errors", x.undo(), NONE);
                Check.due("setClass to the least", x.setClass(kind, i, least[i]), first[i]);
                Check.due("setClass to the most", x.setClass(kind, i, most[i]), least[i]);
                for (int other = 0; other < 3; other++) {
                    for (int j = 0; j < 4; j++) {
                        int want = other == kind && j == i ? most[i] : first[j];
                        Check.due("classSetting after setClass", x.classSetting(other, j), want);
                    }
                }
                Check.due("undo of setClass", x.undo(), 1);
            }
        }
        AdmissionControl x = new AdmissionControl();
        Check.due("setClass of class -1", x.setClass(-1, SHARE, 1), NO_SUCH);
        Check.due("setClass of class 3, bad value", x.setClass(3, SHARE, 0), NO_SUCH);
        Check.due("setClass of setting -1", x.setClass(0, -1, 1), NO_SUCH);
        Check.due("setClass of setting 4, bad value", x.setClass(0, 4, 0), NO_SUCH);
        Check.due("BURST below the tokens", x.setClass(0, BURST, 5), 30);
        Check.due("the bucket keeps its tokens", x.tokens(0), 30);
        x.advance(1);
        Check.due("the bucket keeps its tokens in a tick", x.tokens(0), 30);
    }

    private static void promise4Admission() {
        AdmissionControl x = new AdmissionControl();
        Check.due("offer", x.offer(1, 4, 60), 0);
        Check.due("requests", x.requests(), 1);
        Check.due("state", x.state(0), WAITING);
        Check.due("price", x.price(0), 8);
        Check.due("tokens of the class", x.tokens(1), 22);
        Check.due("tokens of another class", x.tokens(0), 30);
        Check.due("queue", x.queued(1), 1);
        Check.due("offers", x.offers(0), 1);
        Check.due("offer of the least", x.offer(0, 0, 1), 0);
        Check.due("offer behind the first", x.offer(1, 0, 1), 0);
        Check.due("end of the queue", x.queuedAt(1, 1), 2);
        Check.due("undo", x.undo(), 2);
    }

    private static void promise4PriceAboveLimit() {
        AdmissionControl x = new AdmissionControl();
        x.setClass(2, LIMIT, 8);
        Check.due("a price at the LIMIT", x.offer(2, 0, 5), 0);
        x.setClass(2, LIMIT, 7);
        Check.due("a price above the LIMIT", x.offer(2, 0, 5), 1);
        Check.due("the LIMIT of another class", x.offer(1, 0, 5), 0);
        Check.due("price of a refused request", x.price(1), 8);
        Check.due("tokens after the refusal", x.tokens(2), 22);
        Check.due("queue after the refusal", x.queued(2), 1);
        Check.due("refusals", x.refused(2, 1), 1);
    }

    private static AdmissionControl withFullQueue() {
        AdmissionControl x = new AdmissionControl();
        x.set(CAPACITY, 20);
        x.set(PATIENCE, 60);
        x.setClass(0, RATE, 20);
        x.setClass(0, BURST, 99);
        x.advance(2);
        for (int i = 0; i < 8; i++) {
            Check.due("offer to a queue of " + i, x.offer(0, 0, 60), 0);
        }
        return x;
    }

    private static void promise4QueueIsFull() {
        AdmissionControl x = withFullQueue();
        Check.due("tokens", x.tokens(0), 70 - 64);
        Check.due("the reason 2 comes before 4", x.offer(0, 0, 1), 2);
        x.set(PATIENCE, 1);
        Check.due("the reason 2 comes before 3", x.offer(0, 0, 1), 2);
        x.setClass(0, LIMIT, 7);
        Check.due("the reason 1 comes before 2", x.offer(0, 0, 1), 1);
        Check.due("queue", x.queued(0), 8);
        Check.due("refusals for 2", x.refused(0, 2), 2);
        Check.due("refusals for 1", x.refused(0, 1), 1);
    }

    private static void promise4ExpectedWait() {
        AdmissionControl x = new AdmissionControl();
        x.set(PATIENCE, 5);
        Check.due("a wait of 8 * 3 / 4 = 6 with PATIENCE 5", x.wouldRefuse(0, 0), 3);
        x.set(PATIENCE, 6);
        Check.due("a wait of 6 with PATIENCE 6", x.offer(0, 0, 9), 0);
        x.set(PATIENCE, 11);
        Check.due("a wait of 16 * 3 / 4 = 12 with PATIENCE 11", x.offer(0, 0, 9), 3);
        Check.due("the backlog of another class does not count", x.offer(1, 0, 9), 0);
        x.set(PATIENCE, 12);
        Check.due("a wait of 12 with PATIENCE 12", x.wouldRefuse(0, 0), 0);
        x.set(CAPACITY, 5);
        x.set(PATIENCE, 9);
        Check.due("a wait of 48 / 5, rounded down to 9", x.wouldRefuse(0, 0), 0);
        x.set(PATIENCE, 8);
        Check.due("a wait of 9 with PATIENCE 8", x.wouldRefuse(0, 0), 3);
        x.setClass(0, SHARE, 2);
        Check.due("a wait of 16 * 4 / (2 * 5), 6", x.wouldRefuse(0, 0), 0);
        x.set(PATIENCE, 5);
        Check.due("a wait of 6 with PATIENCE 5", x.wouldRefuse(0, 0), 3);
        x.setClass(0, LIMIT, 7);
        Check.due("the reason 1 comes before 3", x.wouldRefuse(0, 0), 1);
    }

    private static void promise4Tokens() {
        AdmissionControl x = new AdmissionControl();
        x.set(PATIENCE, 60);
        for (int i = 0; i < 3; i++) {
            x.offer(0, 0, 60);
        }
        Check.due("tokens", x.tokens(0), 6);
        Check.due("6 tokens for a price of 8", x.offer(0, 0, 60), 4);
        Check.due("tokens after the refusal", x.tokens(0), 6);
        x.advance(1);
        Check.due("8 tokens for a price of 8", x.offer(0, 0, 60), 0);
        Check.due("no tokens", x.tokens(0), 0);
        x.set(PATIENCE, 1);
        Check.due("the reason 3 comes before 4", x.offer(0, 0, 60), 3);
    }

    private static void promise4DelayedOrRejected() {
        AdmissionControl x = new AdmissionControl();
        x.setClass(0, LIMIT, 1);
        x.advance(5);
        x.offer(0, 0, 1);
        Check.due("RETRIES 1: state", x.state(0), DELAYED);
        Check.due("RETRIES 1: when", x.when(0), 5 + 3);
        x.set(RETRIES, 0);
        x.offer(0, 0, 1);
        Check.due("RETRIES 0: state", x.state(1), REJECTED);
        Check.due("RETRIES 0: when", x.when(1), NONE);
        x.set(RETRIES, 4);
        x.set(BACKOFF, 20);
        x.offer(0, 0, 1);
        Check.due("BACKOFF 20: when", x.when(2), 25);
    }

    private static void promise4PassCatchesUp() {
        AdmissionControl x = new AdmissionControl();
        x.offer(0, 0, 4);
        x.advance(1);
        Check.due("pass of class 0", x.pass(0), 4 * 2520);
        x.offer(1, 0, 60);
        Check.due("no other queue: pass of class 1", x.pass(1), 0);
        x.offer(0, 0, 60);
        Check.due("a greater pass stays", x.pass(0), 4 * 2520);
        x.offer(1, 0, 1);
        Check.due("a class whose queue was not empty", x.pass(1), 0);
        x.advance(3);
        Check.due("class 1 had 4 units more to come", x.pass(1), 8 * 2520);
        Check.due("class 0", x.pass(0), 8 * 2520);
        x.advance(1);
        x.setClass(0, SHARE, 9);
        x.advance(1);
        Check.due("class 0 after 10 units and three with a greater SHARE", x.pass(0), 10 * 2520 + 3 * 280);
        Check.due("class 1 after 11 units", x.pass(1), 11 * 2520);
        x.offer(2, 0, 1);
        Check.due("the least pass of the others", x.pass(2), 10 * 2520 + 3 * 280);
    }

    private static void promise4Errors() {
        AdmissionControl x = new AdmissionControl();
        Check.due("class -1", x.offer(-1, 0, 1), NO_SUCH);
        Check.due("class 3", x.offer(3, 0, 0), NO_SUCH);
        Check.due("shape -1", x.offer(0, -1, 61), NO_SUCH);
        Check.due("shape 5", x.offer(0, 5, 1), NO_SUCH);
        Check.due("cost 0", x.offer(0, 0, 0), BAD_VALUE);
        Check.due("cost 61", x.offer(0, 0, 61), BAD_VALUE);
        Check.due("cost -2^31", x.offer(0, 0, Integer.MIN_VALUE), BAD_VALUE);
        Check.due("requests after errors", x.requests(), 0);
        Check.due("undo after errors", x.undo(), NONE);
        x.setClass(0, LIMIT, 1);
        for (int i = 0; i < 32; i++) {
            Check.due("offer " + i, x.offer(0, 0, 1), 1);
        }
        Check.due("offer 32", x.offer(0, 0, 1), TOO_MANY);
        Check.due("bad value before too many", x.offer(0, 0, 0), BAD_VALUE);
        Check.due("no such before too many", x.offer(0, 5, 0), NO_SUCH);
        Check.due("requests", x.requests(), 32);
        Check.due("refusals", x.refused(0, 1), 32);
        Check.due("undo after errors", x.undo(), 3);
        Check.due("requests after undo", x.requests(), 31);
    }

    private static void promise5Errors() {
        AdmissionControl x = new AdmissionControl();
        Check.due("advance(0)", x.advance(0), BAD_VALUE);
        Check.due("advance(-1)", x.advance(-1), BAD_VALUE);
        Check.due("advance(100)", x.advance(100), BAD_VALUE);
        Check.due("advance(2^31 - 1)", x.advance(Integer.MAX_VALUE), BAD_VALUE);
        Check.due("undo after errors", x.undo(), NONE);
        for (int i = 0; i < 10; i++) {
            Check.due("advance(99)", x.advance(99), 0);
        }
        Check.due("clock", x.clock(), 990);
        Check.due("a clock of 1000", x.advance(10), TOO_MANY);
        Check.due("bad value before too many", x.advance(100), BAD_VALUE);
        Check.due("clock after errors", x.clock(), 990);
        Check.due("a clock of 999", x.advance(9), 0);
        Check.due("clock", x.clock(), 999);
        Check.due("a clock of 1000", x.advance(1), TOO_MANY);
        Check.due("idle units", x.idle(), 999 * 4);
        Check.due("undo", x.undo(), 3);
    }

    private static void promise5Buckets() {
        AdmissionControl x = new AdmissionControl();
        x.setClass(1, RATE, 0);
        x.setClass(2, RATE, 7);
        x.setClass(2, BURST, 35);
        for (int kind = 0; kind < 3; kind++) {
            x.offer(kind, 0, 60);
        }
        x.advance(1);
        Check.due("22 and RATE 2", x.tokens(0), 24);
        Check.due("22 and RATE 0", x.tokens(1), 22);
        Check.due("22 and RATE 7", x.tokens(2), 29);
        x.advance(1);
        Check.due("29 and RATE 7, BURST 35", x.tokens(2), 35);
        x.setClass(2, BURST, 34);
        x.advance(1);
        Check.due("a bucket above BURST keeps its tokens", x.tokens(2), 35);
        x.setClass(2, BURST, 99);
        x.advance(1);
        Check.due("35 and RATE 7, BURST 99", x.tokens(2), 42);
        x.advance(1);
        Check.due("24 and four times RATE 2, BURST 30", x.tokens(0), 30);
    }

    private static void promise5BucketAfterWork() {
        AdmissionControl x = new AdmissionControl();
        x.set(CAPACITY, 20);
        x.offer(0, 0, 20);
        x.offer(1, 1, 1);
        Check.due("two units left for class 1", x.advance(1), 1);
        Check.due("22 + 2 + 8 - 1 is more than 30", x.tokens(1), 30);
        Check.due("the rest", x.advance(1), 1);
        Check.due("22 + 2 + 2 + 8 - 20", x.tokens(0), 14);
        x.offer(2, 2, 60);
        x.setClass(2, RATE, 0);
        x.advance(3);
        Check.due("a bucket can become negative: 22 + 8 - 60", x.tokens(2), -30);
        Check.due("4th shape at the class 2", x.wouldRefuse(2, 3), 4);

        AdmissionControl y = new AdmissionControl();
        y.offer(0, 0, 1);
        y.setClass(0, BURST, 5);
        y.advance(1);
        Check.due("a bucket above BURST keeps its tokens after cheap work", y.tokens(0), 22);
        y.setClass(0, BURST, 26);
        y.setClass(0, RATE, 0);
        y.offer(0, 0, 5);
        Check.due("a price of 6", y.tokens(0), 16);
        y.advance(2);
        Check.due("16 + 6 - 5", y.tokens(0), 17);
    }

    private static void promise5OfferedAgain() {
        AdmissionControl x = new AdmissionControl();
        x.set(RETRIES, 4);
        x.setClass(0, LIMIT, 7);
        x.offer(0, 0, 1);
        int[] due = {3, 9, 21, 45};
        for (int n = 1; n <= 4; n++) {
            Check.due("offers", x.offers(0), n);
            Check.due("when", x.when(0), due[n - 1]);
            x.advance(due[n - 1] - x.clock());
            Check.due("offers before the tick in which it is due", x.offers(0), n);
            x.advance(1);
        }
        Check.due("offers", x.offers(0), 5);
        Check.due("state", x.state(0), REJECTED);
        Check.due("refusals", x.refused(0, 1), 5);
        x.setClass(0, LIMIT, 8);
        x.advance(99);
        Check.due("a REJECTED request stays so", x.state(0), REJECTED);

        AdmissionControl y = new AdmissionControl();
        y.setClass(0, LIMIT, 7);
        y.offer(0, 0, 1);
        y.advance(3);
        y.setClass(0, LIMIT, 8);
        y.set(RETRIES, 0);
        Check.due("admitted and done in the tick in which it is due", y.advance(1), 1);
        Check.due("offers", y.offers(0), 2);
        Check.due("when", y.when(0), 3);
        Check.due("the reason of the latest refusal", y.reason(0), 1);

        AdmissionControl z = new AdmissionControl();
        z.setClass(0, LIMIT, 7);
        z.offer(0, 0, 1);
        z.set(RETRIES, 0);
        z.advance(4);
        Check.due("RETRIES counts when it is refused", z.state(0), REJECTED);
    }

    private static void promise5OrderOfOffers() {
        AdmissionControl x = new AdmissionControl();
        x.set(PATIENCE, 6);
        x.setClass(0, LIMIT, 7);
        x.offer(0, 0, 60);
        x.offer(0, 0, 60);
        x.setClass(0, LIMIT, 8);
        x.advance(4);
        Check.due("the lower number is offered first", x.state(0), RUNNING);
        Check.due("the higher number is offered next", x.state(1), REJECTED);
        Check.due("its wait is too long", x.reason(1), 3);
    }

    private static void promise5Impatience() {
        AdmissionControl x = new AdmissionControl();
        x.set(CAPACITY, 1);
        x.set(PATIENCE, 60);
        x.offer(0, 0, 60);
        x.offer(0, 0, 60);
        x.set(PATIENCE, 2);
        x.advance(2);
        Check.due("state after two ticks", x.state(1), WAITING);
        Check.due("tokens", x.tokens(0), 14 + 4);
        x.advance(1);
        Check.due("a RUNNING request is not refused", x.state(0), RUNNING);
        Check.due("a WAITING request is", x.state(1), DELAYED);
        Check.due("reason", x.reason(1), 5);
        Check.due("when", x.when(1), 2 + 3);
        Check.due("refusals", x.refused(0, 5), 1);
        Check.due("tokens: 14 + 6 + 8", x.tokens(0), 28);
        Check.due("queue", x.queued(0), 1);
        Check.due("price stays", x.price(1), 8);
        x.undo();
        x.setClass(0, BURST, 22);
        x.advance(1);
        Check.due("tokens up to BURST", x.tokens(0), 22);
        x.undo();
        x.setClass(0, BURST, 5);
        x.advance(1);
        Check.due("tokens above BURST stay", x.tokens(0), 18);
        x.undo();
        x.set(RETRIES, 0);
        x.advance(1);
        Check.due("RETRIES 0", x.state(1), REJECTED);
    }

    private static void promise5ImpatienceInOrder() {
        AdmissionControl x = new AdmissionControl();
        x.set(PATIENCE, 60);
        x.set(CAPACITY, 2);
        x.offer(0, 0, 60);
        x.advance(1);
        x.offer(0, 0, 1);
        x.advance(1);
        x.offer(0, 0, 60);
        x.offer(2, 0, 60);
        x.set(CAPACITY, 1);
        x.set(PATIENCE, 1);
        x.setClass(0, SHARE, 9);
        Check.due("pass of class 0", x.pass(0), 4 * 2520);
        Check.due("pass of class 2", x.pass(2), 4 * 2520);
        x.advance(1);
        Check.due("admitted a tick ago", x.state(1), DELAYED);
        Check.due("admitted in this tick", x.state(2), WAITING);
        Check.due("class 0 is served", x.done(0), 5);
        x.advance(1);
        Check.due("admitted a tick ago", x.state(2), DELAYED);
        Check.due("class 2", x.state(3), DELAYED);
        Check.due("queue of class 2", x.queued(2), 0);
        Check.due("refusals of class 0", x.refused(0, 5), 2);
        Check.due("refusals of class 2", x.refused(2, 5), 1);
    }

    private static void promise5OrderInATick() {
        AdmissionControl x = new AdmissionControl();
        x.set(PATIENCE, 60);
        x.set(BACKOFF, 1);
        x.setClass(0, RATE, 1);
        for (int i = 0; i < 3; i++) {
            x.offer(0, 0, 60);
        }
        Check.due("6 tokens", x.offer(0, 0, 60), 4);
        x.advance(2);
        Check.due("the bucket gets RATE before requests are offered again", x.state(3), WAITING);
        Check.due("tokens", x.tokens(0), 0);

        AdmissionControl y = new AdmissionControl();
        y.set(PATIENCE, 60);
        y.set(BACKOFF, 2);
        y.setClass(0, RATE, 0);
        for (int i = 0; i < 3; i++) {
            y.offer(0, 0, 60);
        }
        Check.due("6 tokens", y.offer(0, 0, 60), 4);
        y.set(PATIENCE, 19);
        y.set(CAPACITY, 20);
        y.advance(2);
        y.set(PATIENCE, 2);
        y.set(RETRIES, 0);
        y.setClass(0, SHARE, 9);
        y.advance(1);
        Check.due("offered again before the impatient ones leave", y.state(3), REJECTED);
        Check.due("for the tokens", y.reason(3), 4);
        Check.due("the impatient ones", y.state(1), REJECTED);
        Check.due("the last one", y.reason(2), 5);
        Check.due("the tokens come back", y.tokens(0), 6 + 8 + 8 + 8 - 60);
    }

    private static void promise5SharesOfWork() {
        AdmissionControl x = new AdmissionControl();
        x.set(CAPACITY, 1);
        x.set(PATIENCE, 60);
        x.setClass(2, SHARE, 3);
        x.offer(1, 0, 60);
        x.offer(2, 0, 60);
        int[] taken = {1, 2, 2, 2, 1, 2, 2, 2};
        int[] worked = new int[3];
        for (int kind : taken) {
            x.advance(1);
            worked[kind]++;
            Check.due("work for class 1", x.worked(1), worked[1]);
            Check.due("work for class 2", x.worked(2), worked[2]);
        }
        Check.due("pass of class 1", x.pass(1), 2 * 2520);
        Check.due("pass of class 2", x.pass(2), 6 * 840);
        Check.due("pass of class 0", x.pass(0), 0);
    }

    private static void promise5SeveralDoneInATick() {
        AdmissionControl x = new AdmissionControl();
        x.set(CAPACITY, 9);
        x.offer(0, 0, 2);
        x.offer(0, 1, 3);
        x.offer(1, 2, 1);
        x.offer(2, 3, 1);
        Check.due("done in one tick", x.advance(1), 4);
        Check.due("idle units", x.idle(), 2);
        Check.due("queue", x.queued(0), 0);
        Check.due("state", x.state(1), DONE);
        Check.due("when", x.when(3), 0);
        x.offer(0, 0, 10);
        x.offer(1, 0, 10);
        Check.due("done in many ticks", x.advance(99), 2);
        Check.due("clock", x.clock(), 100);
        Check.due("idle units", x.idle(), 2 + 99 * 9 - 20);
    }

    private static void promise5EstimatesAreLearned() {
        AdmissionControl x = new AdmissionControl();
        int[] estimates = {100, 79, 64, 52, 43, 37, 32, 28, 25, 23, 22, 21, 20, 19, 19};
        for (int want : estimates) {
            x.offer(0, 2, 1);
            x.advance(1);
            Check.due("estimate, rounded toward zero", x.estimate(2), want);
            Check.due("another shape", x.estimate(1), 128);
        }
        x.offer(0, 2, 1);
        Check.due("the price of 19 sixteenths", x.price(15), 1);
        x.offer(1, 4, 60);
        x.advance(20);
        Check.due("estimate of a dear shape", x.estimate(4), 128 + (960 - 128) / 4);
        x.setClass(1, RATE, 20);
        x.advance(10);
        x.offer(1, 4, 60);
        Check.due("the price of 336 sixteenths", x.price(17), 21);
    }
}
