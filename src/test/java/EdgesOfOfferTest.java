/** The bounds of promise 4 and of "Requests", "Estimates" and "Offering a request". The first price of a shape is 8. */
public final class EdgesOfOfferTest implements Names {
    private static final int FAR = Integer.MAX_VALUE;

    public static void main(String[] args) {
        Check.each(EdgesOfOfferTest.class);
        Check.end("EdgesOfOfferTest");
    }

    /** What wouldRefuse tells and what offer answers then, which must be the same. */
    private static void dueOffer(String what, AdmissionControl x, int kind, int shape, int want) {
        Check.due("wouldRefuse: " + what, x.wouldRefuse(kind, shape), want);
        Check.due("offer: " + what, x.offer(kind, shape, 60), want);
    }

    // ---- arguments and errors

    static void offerTakesTheClasses0To2() {
        for (int no : new int[] {-1, 3, Integer.MIN_VALUE, FAR}) {
            Twins.unchanged("offer(" + no + ", 0, 1)", x -> x.offer(no, 0, 1), NO_SUCH);
        }
        AdmissionControl x = new AdmissionControl();
        Check.due("offer(0, 0, 1)", x.offer(0, 0, 1), 0);
        Check.due("offer(2, 0, 1)", x.offer(2, 0, 1), 0);
        Check.due("queue of class 0", x.queuedAt(0, 0), 0);
        Check.due("queue of class 1", x.queuedAt(1, 0), NONE);
        Check.due("queue of class 2", x.queuedAt(2, 0), 1);
    }

    static void offerTakesTheShapes0To4() {
        for (int no : new int[] {-1, 5, Integer.MIN_VALUE, FAR}) {
            Twins.unchanged("offer(0, " + no + ", 1)", x -> x.offer(0, no, 1), NO_SUCH);
        }
        AdmissionControl x = new AdmissionControl();
        Check.due("offer(0, 0, 4)", x.offer(0, 0, 4), 0);
        Check.due("offer(0, 4, 4)", x.offer(0, 4, 4), 0);
        x.advance(2);
        Check.due("estimate of the shape 0: 128 - 64 / 4", x.estimate(0), 112);
        Check.due("estimate of the shape 1", x.estimate(1), 128);
        Check.due("estimate of the shape 4: 128 - 64 / 4", x.estimate(4), 112);
    }

    static void offerTakesTheCosts1To60() {
        for (int no : new int[] {0, 61, -1, Integer.MIN_VALUE, FAR}) {
            Twins.unchanged("offer(0, 0, " + no + ")", x -> x.offer(0, 0, no), BAD_VALUE);
        }
        AdmissionControl x = new AdmissionControl();
        x.set(CAPACITY, 1);
        x.set(PATIENCE, 60);
        Check.due("offer(0, 0, 1)", x.offer(0, 0, 1), 0);
        Check.due("offer(0, 0, 60)", x.offer(0, 0, 60), 0);
        Check.due("1 unit for the cost 1", x.advance(1), 1);
        Check.due("59 units for the cost 60", x.advance(59), 0);
        Check.due("60 units for the cost 60", x.advance(1), 1);
    }

    /** The price 8 is above the LIMIT 1, so that the queue does not fill up. */
    private static AdmissionControl withRefused(int requests) {
        AdmissionControl x = new AdmissionControl();
        x.setClass(0, LIMIT, 1);
        x.set(RETRIES, 0);
        for (int i = 0; i < requests; i++) {
            Check.due("offer " + i, x.offer(0, 0, 1), 1);
        }
        return x;
    }

    static void thereAre32RequestsAtMost() {
        AdmissionControl x = withRefused(31);
        Check.due("31 requests", x.requests(), 31);
        Check.due("state(31) of 31", x.state(31), NO_SUCH);
        Check.due("the request 31", x.offer(2, 4, 60), 0);
        Check.due("32 requests", x.requests(), 32);
        Check.due("state(31) of 32", x.state(31), WAITING);
        Check.due("the request 32", x.offer(2, 4, 60), TOO_MANY);
        Check.due("32 requests", x.requests(), 32);
        Check.due("state(32)", x.state(32), NO_SUCH);
        Check.due("queue", x.queued(2), 1);
        Twins.unchanged("offer to 32", () -> withRefused(32), y -> y.offer(1, 1, 5), TOO_MANY);
    }

    static void requestsThatAreDoneCountAmongThe32() {
        AdmissionControl x = new AdmissionControl();
        for (int i = 0; i < 32; i++) {
            Check.due("offer " + i, x.offer(i % 3, 0, 1), 0);
            Check.due("done", x.advance(1), 1);
        }
        Check.due("offer to 32 that are DONE", x.offer(0, 0, 1), TOO_MANY);
    }

    static void aRequestThatIsOfferedAgainNeedsNoRoom() {
        AdmissionControl x = withRefused(31);
        x.set(RETRIES, 1);
        Check.due("offer 31", x.offer(0, 0, 1), 1);
        x.setClass(0, LIMIT, 8);
        x.advance(3);
        Check.due("done in the tick in which it is due", x.advance(1), 1);
        Check.due("offers", x.offers(31), 2);
        Check.due("requests", x.requests(), 32);
    }

    static void offerLooksForErrorsInTheirOrder() {
        Twins.unchanged("no class, bad cost", x -> x.offer(3, 0, 0), NO_SUCH);
        Twins.unchanged("no shape, bad cost", x -> x.offer(0, 5, 61), NO_SUCH);
        Twins.unchanged("no class of 32", () -> withRefused(32), x -> x.offer(-1, 0, 1), NO_SUCH);
        Twins.unchanged("no shape of 32, bad cost", () -> withRefused(32), x -> x.offer(0, -1, 0), NO_SUCH);
        Twins.unchanged("bad cost of 32", () -> withRefused(32), x -> x.offer(0, 0, 61), BAD_VALUE);
    }

    static void requestsAreNumberedInTheOrderOfTheirFirstOffer() {
        AdmissionControl x = new AdmissionControl();
        x.setClass(1, LIMIT, 7);
        Check.due("request 0 is refused", x.offer(1, 0, 4), 1);
        Check.due("request 1", x.offer(2, 1, 5), 0);
        Check.due("request 2", x.offer(0, 2, 6), 0);
        x.setClass(1, LIMIT, 40);
        Check.due("three are done", x.advance(6), 3);
        Check.due("units of request 0", x.done(0), 4);
        Check.due("units of request 1", x.done(1), 5);
        Check.due("units of request 2", x.done(2), 6);
    }

    // ---- the expected cost

    /** Each estimate is e + (16 * 1 - e) / 4, where the division drops what is behind the point. */
    static void theExpectedCostIsTheEstimateRoundedDown() {
        int[] estimates = {100, 79, 64, 52, 43, 37, 32, 28, 25, 23, 22, 21, 20, 19, 19, 19};
        int[] prices = {6, 4, 4, 3, 2, 2, 2, 1, 1, 1, 1, 1, 1, 1, 1, 1};
        AdmissionControl x = new AdmissionControl();
        for (int i = 0; i < estimates.length; i++) {
            Check.due("offer", x.offer(0, 0, 1), 0);
            Check.due("done", x.advance(1), 1);
            Check.due("estimate", x.estimate(0), estimates[i]);
            Check.due("offer of a price", x.offer(1, 0, 1), 0);
            Check.due("price of the estimate " + estimates[i], x.price(x.requests() - 1), prices[i]);
            x.undo();
        }
    }

    /** No estimate falls below 19, so that the division alone never gives less than 1. */
    static void theExpectedCostIsAtLeast1() {
        AdmissionControl x = new AdmissionControl();
        for (int i = 0; i < 31; i++) {
            Check.due("offer", x.offer(i % 3, 2, 1), 0);
            x.advance(1);
        }
        Check.due("the least estimate", x.estimate(2), 19);
        x.setClass(1, LIMIT, 1);
        Check.due("the price 1 at the LIMIT 1", x.offer(1, 2, 9), 0);
        Check.due("the least price", x.price(31), 1);
        Check.due("the backlog of the least price", x.backlog(1), 1);
    }

    // ---- the reason 1

    static void aPriceAtTheLimitIsNotAboveIt() {
        for (int kind = 0; kind < 3; kind++) {
            AdmissionControl x = new AdmissionControl();
            x.setClass(kind, LIMIT, 8);
            dueOffer("LIMIT 8", x, kind, 0, 0);
            x.setClass(kind, LIMIT, 7);
            dueOffer("LIMIT 7", x, kind, 0, 1);
            x.setClass(kind, LIMIT, 1);
            dueOffer("LIMIT 1", x, kind, 0, 1);
            x.setClass(kind, LIMIT, 99);
            dueOffer("LIMIT 99", x, kind, 0, 0);
            x.setClass(kind, LIMIT, 7);
            dueOffer("LIMIT 7 of another class", x, (kind + 1) % 3, 0, 0);
            Check.due("refusals", x.refused(kind, 1), 2);
        }
    }

    /** A request of the cost 60 makes the estimate 128 + 832 / 4 = 336, and 336 / 16 = 21. */
    static void aLearnedPriceAtTheLimitIsNotAboveIt() {
        AdmissionControl x = new AdmissionControl();
        x.set(CAPACITY, 20);
        x.offer(0, 0, 60);
        Check.due("done", x.advance(3), 1);
        x.setClass(1, LIMIT, 20);
        dueOffer("the price 21, LIMIT 20", x, 1, 0, 1);
        Check.due("price", x.price(1), 21);
        x.setClass(1, LIMIT, 21);
        dueOffer("the price 21, LIMIT 21", x, 1, 0, 0);
        Check.due("tokens", x.tokens(1), 30 - 21);
    }

    // ---- the reason 2

    private static AdmissionControl withQueue(int requests, int ticksBefore) {
        AdmissionControl x = new AdmissionControl();
        x.set(CAPACITY, 20);
        x.set(PATIENCE, 60);
        x.setClass(0, RATE, 20);
        x.setClass(0, BURST, 99);
        x.advance(ticksBefore);
        for (int i = 0; i < requests; i++) {
            Check.due("offer " + i, x.offer(0, 0, 60), 0);
        }
        return x;
    }

    static void aQueueHas8RequestsAtMost() {
        AdmissionControl x = withQueue(7, 3);
        Check.due("tokens: 30 + 60 - 56", x.tokens(0), 34);
        dueOffer("to a queue of 7", x, 0, 0, 0);
        Check.due("queue", x.queued(0), 8);
        dueOffer("to a queue of 8", x, 0, 0, 2);
        Check.due("queue", x.queued(0), 8);
        Check.due("the last of the queue", x.queuedAt(0, 7), 7);
        Check.due("behind the last", x.queuedAt(0, 8), NONE);
        Check.due("tokens", x.tokens(0), 26);
        Check.due("refusals", x.refused(0, 2), 1);
        dueOffer("to another class", x, 1, 0, 0);
    }

    /** Three ticks of 20 units: the first request is done, 26 + 60 + 8 - 60 tokens, and the price is 21 then. */
    static void aQueueHasRoomAgainWhenARequestIsDone() {
        AdmissionControl x = withQueue(8, 3);
        x.advance(2);
        dueOffer("to a queue of 8, two ticks later", x, 0, 0, 2);
        Check.due("one is done", x.advance(1), 1);
        Check.due("tokens", x.tokens(0), 34);
        Check.due("queue", x.queued(0), 7);
        dueOffer("to a queue of 7", x, 0, 0, 0);
        Check.due("price", x.price(9), 21);
        Check.due("the last of the queue", x.queuedAt(0, 7), 9);
        dueOffer("to a queue of 8", x, 0, 0, 2);
    }

    // ---- the reason 3

    static void aWaitOfPatienceIsNotAboveIt() {
        AdmissionControl x = new AdmissionControl();
        x.set(PATIENCE, 5);
        dueOffer("8 * 3 / 4 = 6, PATIENCE 5", x, 0, 0, 3);
        x.set(PATIENCE, 6);
        dueOffer("8 * 3 / 4 = 6, PATIENCE 6", x, 0, 0, 0);
        x.set(PATIENCE, 11);
        dueOffer("16 * 3 / 4 = 12, PATIENCE 11", x, 0, 0, 3);
        x.set(PATIENCE, 12);
        dueOffer("16 * 3 / 4 = 12, PATIENCE 12", x, 0, 0, 0);
        Check.due("refusals", x.refused(0, 3), 2);
    }

    static void aWaitAtTheBoundsOfPatience() {
        AdmissionControl x = new AdmissionControl();
        x.set(PATIENCE, 1);
        x.set(CAPACITY, 12);
        dueOffer("24 / 12 = 2, PATIENCE 1", x, 0, 0, 3);
        x.set(CAPACITY, 13);
        dueOffer("24 / 13, rounded down to 1, PATIENCE 1", x, 0, 0, 0);

        AdmissionControl y = new AdmissionControl();
        y.set(PATIENCE, 60);
        y.set(CAPACITY, 2);
        y.setClass(1, SHARE, 9);
        y.setClass(2, SHARE, 6);
        dueOffer("8 * 16 / 2 = 64, PATIENCE 60", y, 0, 0, 3);
        y.setClass(2, SHARE, 5);
        dueOffer("8 * 15 / 2 = 60, PATIENCE 60", y, 0, 0, 0);
        dueOffer("16 * 15 / 2 = 120, PATIENCE 60", y, 0, 0, 3);
    }

    static void theWaitIsRoundedDown() {
        AdmissionControl x = new AdmissionControl();
        x.set(CAPACITY, 5);
        x.set(PATIENCE, 3);
        dueOffer("24 / 5, rounded down to 4, PATIENCE 3", x, 0, 0, 3);
        x.set(PATIENCE, 4);
        dueOffer("24 / 5, rounded down to 4, PATIENCE 4", x, 0, 0, 0);
        x.set(CAPACITY, 7);
        x.set(PATIENCE, 5);
        dueOffer("48 / 7, rounded down to 6, PATIENCE 5", x, 0, 0, 3);
        x.set(PATIENCE, 6);
        dueOffer("48 / 7, rounded down to 6, PATIENCE 6", x, 0, 0, 0);
    }

    static void theWaitHasTheSharesOfAllThreeClassesAboveAndItsOwnBelow() {
        AdmissionControl x = new AdmissionControl();
        x.setClass(0, SHARE, 2);
        x.setClass(1, SHARE, 3);
        x.setClass(2, SHARE, 4);
        int[] waits = {9, 6, 4}; // 8 * 9 / (2 * 4), 8 * 9 / (3 * 4), 8 * 9 / (4 * 4) = 4.5
        for (int kind = 0; kind < 3; kind++) {
            x.set(PATIENCE, waits[kind] - 1);
            Check.due("a shorter PATIENCE, class " + kind, x.wouldRefuse(kind, 0), 3);
            x.set(PATIENCE, waits[kind]);
            Check.due("the PATIENCE of the wait, class " + kind, x.wouldRefuse(kind, 0), 0);
        }
    }

    static void theBacklogOfAnotherClassDoesNotMatter() {
        AdmissionControl x = new AdmissionControl();
        x.set(PATIENCE, 6);
        dueOffer("8 * 3 / 4, PATIENCE 6", x, 1, 0, 0);
        dueOffer("16 * 3 / 4, PATIENCE 6", x, 1, 0, 3);
        dueOffer("8 * 3 / 4 in another class", x, 0, 0, 0);
        dueOffer("8 * 3 / 4 in the third class", x, 2, 0, 0);
    }

    /** One unit in a tick: the backlog falls from 8 to 1, and the wait is (backlog + 8) * 3. */
    static void aRequestCountsAtLeast1InTheBacklog() {
        AdmissionControl x = new AdmissionControl();
        x.set(CAPACITY, 1);
        x.set(PATIENCE, 60);
        Check.due("backlog of the empty queue", x.backlog(0), 0);
        x.offer(0, 0, 60);
        int[] backlogs = {8, 7, 6, 5, 4, 3, 2, 1, 1, 1, 1};
        for (int units = 0; units < backlogs.length; units++) {
            Check.due("units done", x.done(0), units);
            Check.due("backlog after " + units + " units", x.backlog(0), backlogs[units]);
            x.set(PATIENCE, (backlogs[units] + 8) * 3 - 1);
            Check.due("a shorter PATIENCE", x.wouldRefuse(0, 0), 3);
            x.set(PATIENCE, (backlogs[units] + 8) * 3);
            Check.due("the PATIENCE of the wait", x.wouldRefuse(0, 0), 0);
            x.advance(1);
        }
        x.set(PATIENCE, 60);
        x.offer(0, 1, 60);
        Check.due("backlog of a late request and a new one", x.backlog(0), 1 + 8);
    }

    // ---- the reason 4

    /** Three requests cost 24 of the 30 tokens. */
    private static AdmissionControl with6Tokens() {
        AdmissionControl x = new AdmissionControl();
        x.set(PATIENCE, 60);
        for (int i = 0; i < 3; i++) {
            Check.due("offer", x.offer(0, 0, 60), 0);
        }
        Check.due("tokens", x.tokens(0), 6);
        return x;
    }

    static void tokensOfThePriceAreEnough() {
        AdmissionControl x = with6Tokens();
        x.setClass(0, RATE, 1);
        dueOffer("6 tokens for the price 8", x, 0, 0, 4);
        Check.due("a refusal takes no tokens", x.tokens(0), 6);
        x.advance(1);
        dueOffer("7 tokens for the price 8", x, 0, 0, 4);
        x.advance(1);
        Check.due("tokens", x.tokens(0), 8);
        dueOffer("8 tokens for the price 8", x, 0, 0, 0);
        Check.due("tokens", x.tokens(0), 0);
        dueOffer("no tokens for the price 8", x, 0, 0, 4);
        dueOffer("the tokens of another class", x, 1, 0, 0);
        Check.due("refusals", x.refused(0, 4), 3);
    }

    /** 22 tokens and no RATE: a request of the price 8 and the cost 30 leaves 0, one of the cost 31 leaves -1. */
    static void aBucketCanBecomeNegative() {
        for (int cost = 29; cost <= 60; cost++) {
            AdmissionControl x = new AdmissionControl();
            x.setClass(0, RATE, 0);
            x.set(CAPACITY, 20);
            x.offer(0, 0, cost);
            Check.due("tokens", x.tokens(0), 22);
            Check.due("done", x.advance(3), 1);
            Check.due("tokens after the cost " + cost, x.tokens(0), 30 - cost);
            x.offer(0, 1, 1);
            Check.due("few tokens for the price 8", x.reason(1), 4);
        }
    }

    // ---- the first of the reasons that apply

    static void theReason1IsToldBeforeThe2() {
        AdmissionControl x = withQueue(8, 3);
        dueOffer("the queue is full", x, 0, 0, 2);
        x.setClass(0, LIMIT, 7);
        dueOffer("and the price is above the LIMIT", x, 0, 0, 1);
    }

    static void theReason1IsToldBeforeThe3() {
        AdmissionControl x = new AdmissionControl();
        x.set(PATIENCE, 5);
        dueOffer("the wait is too long", x, 0, 0, 3);
        x.setClass(0, LIMIT, 7);
        dueOffer("and the price is above the LIMIT", x, 0, 0, 1);
    }

    static void theReason1IsToldBeforeThe4() {
        AdmissionControl x = with6Tokens();
        dueOffer("there are too few tokens", x, 0, 0, 4);
        x.setClass(0, LIMIT, 7);
        dueOffer("and the price is above the LIMIT", x, 0, 0, 1);
    }

    static void theReason2IsToldBeforeThe3() {
        AdmissionControl x = withQueue(7, 3);
        x.set(PATIENCE, 1);
        dueOffer("64 * 3 / 20 = 9, PATIENCE 1", x, 0, 0, 3);
        x.set(PATIENCE, 60);
        dueOffer("the last place of the queue", x, 0, 0, 0);
        x.set(PATIENCE, 1);
        dueOffer("the wait is too long and the queue is full", x, 0, 0, 2);
    }

    static void theReason2IsToldBeforeThe4() {
        AdmissionControl x = withQueue(8, 2);
        Check.due("tokens: 30 + 40 - 64", x.tokens(0), 6);
        dueOffer("there are too few tokens and the queue is full", x, 0, 0, 2);
    }

    static void theReason3IsToldBeforeThe4() {
        AdmissionControl x = with6Tokens();
        dueOffer("there are too few tokens", x, 0, 0, 4);
        x.set(PATIENCE, 23);
        dueOffer("and the wait of 32 * 3 / 4 = 24 is too long", x, 0, 0, 3);
        x.set(PATIENCE, 24);
        dueOffer("and the wait of 24 is not too long", x, 0, 0, 4);
    }

    // ---- admission

    static void anAdmittedRequestPaysItsPriceAndGoesToTheEnd() {
        AdmissionControl x = new AdmissionControl();
        for (int i = 0; i < 3; i++) {
            Check.due("offer", x.offer(1, i, 60), 0);
            Check.due("tokens", x.tokens(1), 30 - 8 * (i + 1));
            Check.due("queue", x.queued(1), i + 1);
            Check.due("the end of the queue", x.queuedAt(1, i), i);
            Check.due("the beginning of the queue", x.queuedAt(1, 0), 0);
            Check.due("reason", x.reason(i), 0);
        }
        Check.due("tokens of another class", x.tokens(0), 30);
    }

    static void anAdmittedRequestKeepsItsPrice() {
        AdmissionControl x = new AdmissionControl();
        x.set(CAPACITY, 20);
        x.offer(0, 0, 60);
        x.offer(0, 0, 60);
        Check.due("the first is done", x.advance(3), 1);
        Check.due("expected cost now", x.estimate(0) / 16, 21);
        Check.due("price of the second", x.price(1), 8);
        Check.due("backlog of the second", x.backlog(0), 8);
        int tokens = x.tokens(0);
        Check.due("the second is done", x.advance(3), 1);
        Check.due("tokens: three times RATE, and 8 - 60", x.tokens(0), tokens + 6 - 52);
    }

    static void aClassWhoseQueueIsNotEmptyKeepsItsPass() {
        AdmissionControl x = new AdmissionControl();
        x.set(CAPACITY, 1);
        x.set(PATIENCE, 60);
        x.offer(0, 0, 60);
        x.advance(3);
        x.offer(1, 0, 60);
        Check.due("the empty class takes the pass of the other", x.pass(1), 3 * 2520);
        x.advance(1);
        Check.due("class 0 is ahead", x.pass(0), 4 * 2520);
        x.offer(1, 1, 60);
        Check.due("class 1 with a queue keeps its pass", x.pass(1), 3 * 2520);
    }

    static void aClassKeepsItsPassIfAllOthersAreEmpty() {
        AdmissionControl x = new AdmissionControl();
        x.offer(0, 0, 4);
        x.advance(1);
        Check.due("pass of the class that is empty now", x.pass(0), 4 * 2520);
        x.offer(1, 0, 60);
        Check.due("pass of the only class with a queue", x.pass(1), 0);
    }

    static void aClassTakesTheLeastPassOfTheOthers() {
        for (int quick = 0; quick < 2; quick++) {
            AdmissionControl x = new AdmissionControl();
            x.set(CAPACITY, 2);
            x.set(PATIENCE, 60);
            x.offer(0, 0, 60);
            x.offer(1, 0, 60);
            x.setClass(quick, SHARE, 2);
            x.advance(1);
            Check.due("pass of the class with the SHARE 2", x.pass(quick), 1260);
            Check.due("pass of the other class", x.pass(1 - quick), 2520);
            x.offer(2, 0, 60);
            Check.due("the least pass of the two", x.pass(2), 1260);
        }
    }

    static void anEmptyClassWithALesserPassDoesNotMatter() {
        AdmissionControl x = new AdmissionControl();
        x.set(CAPACITY, 1);
        x.set(PATIENCE, 60);
        x.offer(1, 0, 60);
        x.advance(1);
        Check.due("pass of the empty class 0", x.pass(0), 0);
        x.offer(2, 0, 60);
        Check.due("pass of class 2", x.pass(2), 2520);
        x.offer(0, 0, 60);
        Check.due("pass of class 0", x.pass(0), 2520);
    }

    /** Class 0 did one unit with the SHARE of the row; then class 1 alone has a queue, and the pass 2520. */
    static void aPassThatIsGreaterAlreadyStays() {
        int[][] sharesAndPasses = {{9, 2520}, {1, 2520}, {2, 2520}};
        for (int[] row : sharesAndPasses) {
            AdmissionControl x = new AdmissionControl();
            x.set(CAPACITY, 1);
            x.set(PATIENCE, 60);
            x.setClass(0, SHARE, row[0]);
            x.offer(0, 0, 1);
            x.advance(1);
            Check.due("pass of class 0", x.pass(0), 2520 / row[0]);
            x.setClass(0, SHARE, 1);
            x.offer(1, 0, 60);
            x.advance(1);
            Check.due("pass of class 1", x.pass(1), 2520);
            x.offer(0, 1, 60);
            Check.due("the pass of the other, or an equal one", x.pass(0), row[1]);
        }
        AdmissionControl y = new AdmissionControl();
        y.offer(0, 0, 4);
        y.advance(1);
        y.offer(1, 0, 60);
        Check.due("pass of class 1", y.pass(1), 0);
        y.offer(0, 1, 60);
        Check.due("a pass that is greater stays", y.pass(0), 4 * 2520);
    }

    static void aRefusedRequestChangesNoPass() {
        AdmissionControl x = new AdmissionControl();
        x.offer(0, 0, 60);
        x.advance(1);
        x.setClass(1, LIMIT, 7);
        dueOffer("LIMIT 7", x, 1, 0, 1);
        Check.due("pass", x.pass(1), 0);
        Check.due("queue", x.queued(1), 0);
        Check.due("tokens", x.tokens(1), 30);
    }

    // ---- refusal

    /** The price 8 is above the LIMIT 7 at each offer; BACKOFF 1: the offers are at the ticks 0, 1, 3, 7 and 15. */
    static void aRequestIsDelayedAtMostRetriesTimes() {
        int[] dues = {1, 3, 7, 15};
        for (int retries = 0; retries <= 4; retries++) {
            AdmissionControl x = new AdmissionControl();
            x.set(BACKOFF, 1);
            x.set(RETRIES, retries);
            x.setClass(0, LIMIT, 7);
            Check.due("offer", x.offer(0, 0, 5), 1);
            for (int offers = 1; offers <= retries; offers++) {
                Check.due("offers", x.offers(0), offers);
                Check.due("state with RETRIES " + retries, x.state(0), DELAYED);
                Check.due("when", x.when(0), dues[offers - 1]);
                x.advance(dues[offers - 1] - x.clock() + 1);
            }
            Check.due("offers with RETRIES " + retries, x.offers(0), retries + 1);
            Check.due("state with RETRIES " + retries, x.state(0), REJECTED);
            Check.due("when", x.when(0), NONE);
            x.advance(40);
            Check.due("offers of a REJECTED request", x.offers(0), retries + 1);
            Check.due("refusals", x.refused(0, 1), retries + 1);
        }
    }

    /** With the latest time: what counts is the RETRIES of the moment at which it is refused. */
    static void retriesCountWhenARequestIsRefused() {
        AdmissionControl x = new AdmissionControl();
        x.set(BACKOFF, 1);
        x.setClass(0, LIMIT, 7);
        x.offer(0, 0, 5);
        x.offer(0, 0, 5);
        x.set(RETRIES, 2);
        x.advance(2);
        Check.due("offered twice, RETRIES 2", x.state(0), DELAYED);
        Check.due("due at 1 + 2", x.when(0), 3);
        x.set(RETRIES, 0);
        x.advance(1);
        Check.due("a DELAYED request, RETRIES 0", x.state(1), DELAYED);
        x.advance(1);
        Check.due("offered three times, RETRIES 0", x.state(1), REJECTED);
        Check.due("offers", x.offers(1), 3);
    }

    static void aDelayIsBackoffTimesAPowerOf2() {
        int[][] rows = {{1, 1, 2, 4, 8}, {3, 3, 6, 12, 24}, {20, 20, 40, 80, 160}};
        for (int[] row : rows) {
            AdmissionControl x = new AdmissionControl();
            x.set(BACKOFF, row[0]);
            x.set(RETRIES, 4);
            x.setClass(0, LIMIT, 7);
            x.advance(5);
            x.offer(0, 0, 5);
            int offeredAt = 5;
            for (int offers = 1; offers <= 4; offers++) {
                Check.due("BACKOFF " + row[0] + ", offers " + offers, x.when(0), offeredAt + row[offers]);
                offeredAt += row[offers];
                for (int left = offeredAt + 1 - x.clock(); left > 0; left -= 99) {
                    x.advance(Math.min(left, 99));
                }
            }
            Check.due("state", x.state(0), REJECTED);
        }
    }

    static void aDelayFollowsTheBackoffOfTheMoment() {
        AdmissionControl x = new AdmissionControl();
        x.setClass(0, LIMIT, 7);
        x.offer(0, 0, 5);
        x.set(BACKOFF, 20);
        Check.due("a delay that was told already", x.when(0), 3);
        x.offer(0, 0, 5);
        Check.due("a delay with the new BACKOFF", x.when(1), 20);
    }

    static void eachReasonDelays() {
        AdmissionControl x = withQueue(8, 2);
        x.offer(0, 0, 1);
        Check.due("the reason 2", x.reason(8) * 10 + x.state(8), 20 + DELAYED);
        x.set(PATIENCE, 1);
        x.set(CAPACITY, 1);
        x.offer(1, 0, 1);
        Check.due("the reason 3", x.reason(9) * 10 + x.state(9), 30 + DELAYED);
        x.setClass(2, LIMIT, 1);
        x.offer(2, 0, 1);
        Check.due("the reason 1", x.reason(10) * 10 + x.state(10), 10 + DELAYED);
        AdmissionControl y = with6Tokens();
        y.offer(0, 0, 1);
        Check.due("the reason 4", y.reason(3) * 10 + y.state(3), 40 + DELAYED);
    }
}
