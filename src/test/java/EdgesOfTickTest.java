/** The bounds of promise 5 and of "A tick" and "Estimates". The first price of a shape is 8. */
public final class EdgesOfTickTest implements Names {
    public static void main(String[] args) {
        Check.each(EdgesOfTickTest.class);
        Check.end("EdgesOfTickTest");
    }

    // ---- arguments, errors and the clock

    static void advanceTakes1To99Ticks() {
        for (int no : new int[] {0, 100, -1, Integer.MIN_VALUE, Integer.MAX_VALUE}) {
            Twins.unchanged("advance(" + no + ")", x -> x.advance(no), BAD_VALUE);
        }
        AdmissionControl x = new AdmissionControl();
        Check.due("advance(1)", x.advance(1), 0);
        Check.due("clock", x.clock(), 1);
        Check.due("advance(99)", x.advance(99), 0);
        Check.due("clock", x.clock(), 100);
    }

    private static AdmissionControl at(int clock) {
        AdmissionControl x = new AdmissionControl();
        x.offer(2, 1, 60);
        for (int left = clock; left > 0; left -= 99) {
            x.advance(Math.min(99, left));
        }
        Check.due("clock", x.clock(), clock);
        return x;
    }

    static void theClockIs999AtMost() {
        Twins.unchanged("999 and 1", () -> at(999), x -> x.advance(1), TOO_MANY);
        Twins.unchanged("999 and 99", () -> at(999), x -> x.advance(99), TOO_MANY);
        Twins.unchanged("998 and 2", () -> at(998), x -> x.advance(2), TOO_MANY);
        Twins.unchanged("901 and 99", () -> at(901), x -> x.advance(99), TOO_MANY);
        AdmissionControl x = at(998);
        Check.due("998 and 1", x.advance(1), 0);
        Check.due("clock", x.clock(), 999);
        AdmissionControl y = at(900);
        Check.due("900 and 99", y.advance(99), 0);
        Check.due("clock", y.clock(), 999);
    }

    static void advanceLooksAtTheTicksBeforeTheClock() {
        Twins.unchanged("advance(0) at 999", () -> at(999), x -> x.advance(0), BAD_VALUE);
        Twins.unchanged("advance(100) at 999", () -> at(999), x -> x.advance(100), BAD_VALUE);
        Twins.unchanged("advance(100) at 950", () -> at(950), x -> x.advance(100), BAD_VALUE);
    }

    static void advanceAnswersTheRequestsThatAreDoneInTheseTicks() {
        AdmissionControl x = new AdmissionControl();
        x.offer(0, 0, 8);
        x.offer(0, 1, 4);
        Check.due("none in the tick 0", x.advance(1), 0);
        Check.due("one in the tick 1, the last one", x.advance(1), 1);
        Check.due("one in the tick 2, the first one", x.advance(9), 1);
        Check.due("none again", x.advance(9), 0);
        x.undo();
        x.undo();
        x.undo();
        Check.due("two in the ticks 1 and 2", x.advance(2), 2);
    }

    static void advanceDoesNotAnswerThoseThatAreDelayedOrRejected() {
        AdmissionControl x = new AdmissionControl();
        x.set(BACKOFF, 1);
        x.setClass(1, LIMIT, 7);
        x.offer(1, 2, 1);
        x.set(RETRIES, 2);
        Check.due("refused in the tick 1 and DELAYED", x.advance(2), 0);
        Check.due("state", x.state(0), DELAYED);
        Check.due("refused in the tick 3 and REJECTED", x.advance(2), 0);
        Check.due("state", x.state(0), REJECTED);
    }

    // ---- 1: the buckets get RATE tokens

    /** A bucket of 22 tokens after a tick. */
    private static int afterATick(int kind, int burst, int rate) {
        AdmissionControl x = new AdmissionControl();
        x.offer(kind, 0, 60);
        Check.due("tokens", x.tokens(kind), 22);
        x.setClass(kind, BURST, burst);
        x.setClass(kind, RATE, rate);
        x.advance(1);
        Check.due("tokens of another class", x.tokens((kind + 1) % 3), 30);
        return x.tokens(kind);
    }

    static void aBucketGetsRateTokensUpToBurst() {
        int[][] rows = {{30, 2, 24}, {25, 2, 24}, {24, 2, 24}, {23, 2, 23}, {22, 2, 22}, {23, 1, 23}, {22, 1, 22},
            {99, 20, 42}, {42, 20, 42}, {41, 20, 41}, {23, 20, 23}, {22, 20, 22}, {30, 0, 22}, {22, 0, 22}};
        for (int[] row : rows) {
            for (int kind = 0; kind < 3; kind++) {
                Check.due("22 tokens, BURST " + row[0] + ", RATE " + row[1], afterATick(kind, row[0], row[1]), row[2]);
            }
        }
    }

    static void aBucketThatHasMoreThanBurstKeepsItsTokensInATick() {
        int[][] rows = {{21, 0}, {21, 1}, {21, 2}, {21, 20}, {1, 0}, {1, 2}, {1, 20}, {20, 2}};
        for (int[] row : rows) {
            for (int kind = 0; kind < 3; kind++) {
                Check.due("22 tokens, BURST " + row[0] + ", RATE " + row[1], afterATick(kind, row[0], row[1]), 22);
            }
        }
    }

    static void aBucketBelow0GetsRateTokens() {
        AdmissionControl x = new AdmissionControl();
        x.set(CAPACITY, 20);
        x.setClass(0, RATE, 0);
        x.offer(0, 0, 60);
        x.advance(3);
        int[] tokens = {-30, -10, 1, 1};
        x.setClass(0, BURST, 1);
        x.setClass(0, RATE, 20);
        for (int ticks = 0; ticks < tokens.length; ticks++) {
            Check.due("tokens after " + ticks + " ticks with RATE 20, BURST 1", x.tokens(0), tokens[ticks]);
            x.advance(1);
        }
    }

    static void theBucketsGetTheirTokensBeforeRequestsAreOfferedAgain() {
        for (int rate = 0; rate <= 2; rate++) {
            AdmissionControl x = new AdmissionControl();
            x.set(PATIENCE, 60);
            x.set(BACKOFF, 1);
            x.setClass(0, RATE, 1);
            for (int i = 0; i < 3; i++) {
                x.offer(0, 0, 60);
            }
            Check.due("6 tokens for the price 8", x.offer(0, 0, 60), 4);
            x.advance(1);
            x.setClass(0, RATE, rate);
            x.advance(1);
            Check.due("offers", x.offers(3), 2);
            Check.due("7 tokens and RATE " + rate, x.state(3), rate == 0 ? REJECTED : WAITING);
        }
    }

    // ---- 2: requests are offered again

    static void aRequestIsOfferedAgainInTheTickInWhichItIsDue() {
        for (int backoff : new int[] {1, 2, 3, 19, 20}) {
            for (int start : new int[] {0, 7}) {
                AdmissionControl x = new AdmissionControl();
                if (start > 0) {
                    x.advance(start);
                }
                x.set(BACKOFF, backoff);
                x.setClass(0, LIMIT, 7);
                x.offer(0, 0, 60);
                x.setClass(0, LIMIT, 8);
                Check.due("when", x.when(0), start + backoff);
                x.advance(backoff);
                Check.due("offers before the tick in which it is due", x.offers(0), 1);
                Check.due("state", x.state(0), DELAYED);
                x.advance(1);
                Check.due("offers after it", x.offers(0), 2);
                Check.due("state", x.state(0), RUNNING);
                x.advance(1);
                Check.due("offers a tick later", x.offers(0), 2);
            }
        }
    }

    /** Both are due at 3, request 1 was delayed first; with PATIENCE 6 there is room for one: 8 * 3 / 4 = 6. */
    static void requestsAreOfferedAgainInAscendingOrder() {
        AdmissionControl x = new AdmissionControl();
        x.set(RETRIES, 4);
        x.setClass(0, LIMIT, 7);
        x.set(BACKOFF, 1);
        x.offer(0, 0, 60);
        x.set(BACKOFF, 3);
        x.offer(0, 0, 60);
        x.set(BACKOFF, 1);
        x.advance(2);
        Check.due("when of request 0: 1 + 2", x.when(0), 3);
        Check.due("when of request 1", x.when(1), 3);
        x.setClass(0, LIMIT, 40);
        x.set(PATIENCE, 6);
        x.advance(2);
        Check.due("request 0 is offered first", x.state(0), RUNNING);
        Check.due("request 1 is offered next", x.state(1), DELAYED);
        Check.due("reason", x.reason(1), 3);
    }

    /**
     * Class 0 has the pass 10080. Request 1 of class 2 comes before request 2 of class 0 and finds all
     * queues empty: class 2 keeps the pass 0 and takes the whole tick.
     */
    static void theOrderOfNumbersGoesBeforeThatOfClasses() {
        AdmissionControl x = new AdmissionControl();
        x.offer(0, 0, 4);
        x.advance(1);
        x.setClass(0, LIMIT, 7);
        x.setClass(2, LIMIT, 7);
        Check.due("request 1", x.offer(2, 1, 60), 1);
        Check.due("request 2", x.offer(0, 1, 60), 1);
        x.setClass(0, LIMIT, 40);
        x.setClass(2, LIMIT, 40);
        x.advance(3);
        Check.due("both are DELAYED until now", x.offers(1) * 10 + x.offers(2), 11);
        x.advance(1);
        Check.due("both are offered again", x.offers(1) * 10 + x.offers(2), 22);
        Check.due("units of class 2", x.worked(2), 4);
        Check.due("pass of class 2", x.pass(2), 4 * 2520);
        Check.due("pass of class 0", x.pass(0), 4 * 2520);
        Check.due("state", x.state(2), WAITING);
    }

    static void requestsAreOfferedAgainBeforeOthersLeave() {
        AdmissionControl x = new AdmissionControl();
        x.set(PATIENCE, 60);
        x.set(BACKOFF, 2);
        x.setClass(0, RATE, 0);
        for (int i = 0; i < 3; i++) {
            x.offer(0, 0, 60);
        }
        Check.due("6 tokens for the price 8", x.offer(0, 0, 60), 4);
        x.advance(2);
        x.set(CAPACITY, 20);
        x.set(PATIENCE, 3);
        x.advance(1);
        Check.due("two ticks of three", x.refused(0, 5), 0);
        x.undo();
        x.setClass(0, SHARE, 9);
        x.set(PATIENCE, 2);
        x.advance(1);
        Check.due("offered again with 6 tokens", x.reason(3), 4);
        Check.due("offers", x.offers(3), 2);
        Check.due("then the others left", x.refused(0, 5), 2);
        Check.due("tokens: 6 + 8 + 8", x.tokens(0), 22);
    }

    // ---- 3: requests that waited too long leave

    /** Request 0 gets all units, one in a tick; request 1 waits behind it. 14 tokens. */
    private static AdmissionControl withOneWaiting() {
        AdmissionControl x = new AdmissionControl();
        x.set(CAPACITY, 1);
        x.set(PATIENCE, 60);
        x.setClass(0, RATE, 0);
        x.offer(0, 0, 60);
        x.offer(0, 0, 60);
        return x;
    }

    /** Request 0 is done in the tick 59; in the tick 60, request 1 leaves before it would get a unit. */
    static void aRequestLeavesPatienceTicksAfterItsAdmission() {
        for (int patience : new int[] {1, 2, 5, 20, 59, 60}) {
            AdmissionControl x = withOneWaiting();
            x.set(PATIENCE, patience);
            x.advance(patience);
            Check.due("state after PATIENCE - 1 ticks", x.state(1), WAITING);
            Check.due("refusals", x.refused(0, 5), 0);
            x.advance(1);
            Check.due("state after PATIENCE " + patience, x.state(1), DELAYED);
            Check.due("reason", x.reason(1), 5);
            Check.due("when", x.when(1), patience + 3);
            Check.due("units", x.done(1), 0);
            Check.due("refusals", x.refused(0, 5), 1);
            Check.due("queue", x.queued(0), patience >= 59 ? 0 : 1);
        }
    }

    static void aRequestLeavesAlsoMoreThanPatienceTicksAfterItsAdmission() {
        for (int patience : new int[] {9, 8, 3, 1}) {
            AdmissionControl x = withOneWaiting();
            x.advance(10);
            x.set(PATIENCE, 11);
            x.advance(1);
            Check.due("10 ticks, PATIENCE 11", x.state(1), WAITING);
            x.undo();
            x.set(PATIENCE, patience);
            x.advance(1);
            Check.due("10 ticks, PATIENCE " + patience, x.state(1), DELAYED);
            Check.due("when", x.when(1), 10 + 3);
        }
    }

    /** Request 1 is offered at 0, admitted at 3, leaves at 8, is admitted again at 14 and leaves at 16. */
    static void aRequestWaitsFromItsLatestAdmission() {
        AdmissionControl x = new AdmissionControl();
        x.set(CAPACITY, 1);
        x.set(PATIENCE, 60);
        x.set(RETRIES, 4);
        x.offer(0, 0, 60);
        x.setClass(0, LIMIT, 7);
        x.offer(0, 0, 60);
        x.setClass(0, LIMIT, 8);
        x.advance(4);
        Check.due("offers", x.offers(1), 2);
        x.set(PATIENCE, 5);
        x.advance(4);
        Check.due("after the tick 7", x.state(1), WAITING);
        x.advance(1);
        Check.due("after the tick 8", x.state(1), DELAYED);
        Check.due("when", x.when(1), 8 + 3 * 2);
        x.set(PATIENCE, 60);
        x.advance(6);
        Check.due("offers", x.offers(1), 3);
        x.set(PATIENCE, 2);
        x.advance(1);
        Check.due("after the tick 15", x.state(1), WAITING);
        x.advance(1);
        Check.due("after the tick 16", x.state(1), DELAYED);
        Check.due("when", x.when(1), 16 + 3 * 4);
    }

    /** From the tick 4 on, class 0 with the SHARE 9 takes eight units before class 1 gets its third. */
    static void aRunningRequestNeverLeaves() {
        AdmissionControl x = new AdmissionControl();
        x.set(CAPACITY, 1);
        x.set(PATIENCE, 60);
        x.offer(0, 0, 60);
        x.offer(1, 0, 60);
        x.advance(2);
        Check.due("one unit for each", x.done(0) * 10 + x.done(1), 11);
        x.setClass(0, SHARE, 9);
        x.set(PATIENCE, 1);
        x.advance(9);
        Check.due("units of request 0", x.done(0), 9);
        Check.due("units of request 1", x.done(1), 2);
        Check.due("state of request 0", x.state(0), RUNNING);
        Check.due("state of request 1", x.state(1), RUNNING);
        Check.due("refusals", x.refused(0, 5) + x.refused(1, 5), 0);
    }

    static void allWhoWaitedTooLongLeave() {
        AdmissionControl x = new AdmissionControl();
        int[] kinds = {0, 0, 0, 1, 2, 2};
        for (int kind : kinds) {
            Check.due("offer", x.offer(kind, 0, 60), 0);
        }
        x.set(CAPACITY, 1);
        x.set(PATIENCE, 1);
        x.advance(1);
        Check.due("queues after the tick 0", x.queued(0) * 100 + x.queued(1) * 10 + x.queued(2), 312);
        x.advance(1);
        Check.due("queues after the tick 1", x.queued(0) * 100 + x.queued(1) * 10 + x.queued(2), 100);
        Check.due("who is left", x.queuedAt(0, 0), 0);
        for (int request = 1; request < 6; request++) {
            Check.due("state", x.state(request), DELAYED);
            Check.due("reason", x.reason(request), 5);
            Check.due("when", x.when(request), 4);
        }
        int[] refusals = {2, 1, 2};
        for (int kind = 0; kind < 3; kind++) {
            Check.due("refusals", x.refused(kind, 5), refusals[kind]);
        }
        Check.due("units of request 0", x.done(0), 2);
    }

    /** Class 0 gets the unit of the tick 3; in the tick 4, all 8 of class 1 have waited for one tick. */
    static void aFullQueueLeavesAsAWhole() {
        AdmissionControl x = new AdmissionControl();
        x.set(CAPACITY, 20);
        x.set(PATIENCE, 60);
        x.setClass(1, RATE, 20);
        x.setClass(1, BURST, 99);
        x.advance(3);
        for (int i = 0; i < 8; i++) {
            Check.due("offer", x.offer(1, 0, 60), 0);
        }
        Check.due("offer", x.offer(0, 0, 60), 0);
        x.setClass(1, RATE, 0);
        x.set(CAPACITY, 1);
        x.set(PATIENCE, 1);
        x.advance(1);
        Check.due("queue after the tick 3", x.queued(1), 8);
        Check.due("tokens: 30 + 60 - 64", x.tokens(1), 26);
        x.advance(1);
        Check.due("queue after the tick 4", x.queued(1), 0);
        Check.due("backlog", x.backlog(1), 0);
        Check.due("refusals", x.refused(1, 5), 8);
        Check.due("tokens: 26 + 64", x.tokens(1), 90);
        for (int request = 0; request < 8; request++) {
            Check.due("when", x.when(request), 4 + 3);
        }
        Check.due("units of class 0", x.worked(0), 2);
    }

    static void onlyThoseWhoWaitedTooLongLeave() {
        AdmissionControl x = new AdmissionControl();
        x.offer(0, 0, 60);
        x.offer(0, 1, 60);
        x.advance(1);
        Check.due("offer", x.offer(0, 2, 60), 0);
        x.set(CAPACITY, 1);
        x.set(PATIENCE, 2);
        x.advance(1);
        Check.due("queue after the tick 1", x.queued(0), 3);
        x.advance(1);
        Check.due("queue after the tick 2", x.queued(0), 2);
        Check.due("the one who came at 0", x.state(1), DELAYED);
        Check.due("the one who came at 1", x.state(2), WAITING);
        Check.due("the place of the one who came at 1", x.queuedAt(0, 1), 2);
        x.advance(1);
        Check.due("queue after the tick 3", x.queued(0), 1);
        Check.due("the one who came at 1", x.state(2), DELAYED);
    }

    /** 14 tokens and the price 8, in the tick 1. */
    private static int afterLeaving(int burst) {
        AdmissionControl x = withOneWaiting();
        x.set(PATIENCE, 1);
        x.setClass(0, BURST, burst);
        x.advance(1);
        Check.due("tokens before", x.tokens(0), 14);
        x.advance(1);
        Check.due("reason", x.reason(1), 5);
        return x.tokens(0);
    }

    static void thePriceOfOneWhoLeavesComesBackUpToBurst() {
        int[][] rows = {{99, 22}, {30, 22}, {23, 22}, {22, 22}, {21, 21}, {20, 20}, {15, 15}, {14, 14}};
        for (int[] row : rows) {
            Check.due("14 tokens and 8, BURST " + row[0], afterLeaving(row[0]), row[1]);
        }
    }

    static void aBucketThatHasMoreThanBurstKeepsItsTokensWhenOneLeaves() {
        for (int burst : new int[] {13, 12, 6, 1}) {
            Check.due("14 tokens and 8, BURST " + burst, afterLeaving(burst), 14);
        }
    }

    /** Request 0 makes the expected cost 21 in the tick 2; request 2, which paid 8, leaves in the tick 4. */
    static void thePriceThatWasPaidComesBack() {
        AdmissionControl x = new AdmissionControl();
        x.set(CAPACITY, 20);
        x.set(PATIENCE, 60);
        x.setClass(0, RATE, 0);
        x.offer(0, 0, 60);
        x.offer(0, 1, 60);
        x.offer(0, 0, 60);
        x.set(PATIENCE, 4);
        x.advance(4);
        Check.due("estimate", x.estimate(0), 336);
        Check.due("tokens: 6 + 8 - 60", x.tokens(0), -46);
        x.advance(1);
        Check.due("reason", x.reason(2), 5);
        Check.due("tokens", x.tokens(0), -38);
        Check.due("price", x.price(2), 8);
    }

    /** PATIENCE 60 lets request 1 in each time; PATIENCE 1 makes it leave in the tick after that. */
    static void oneWhoLeavesIsDelayedAtMostRetriesTimes() {
        for (int retries = 0; retries <= 4; retries++) {
            AdmissionControl x = withOneWaiting();
            x.set(BACKOFF, 1);
            x.set(RETRIES, retries);
            for (int offers = 1; offers <= retries; offers++) {
                letLeave(x, offers);
                Check.due("state with RETRIES " + retries + " after " + offers, x.state(1), DELAYED);
                x.set(PATIENCE, 60);
                x.advance(x.when(1) + 1 - x.clock());
                Check.due("admitted again", x.state(1), WAITING);
            }
            letLeave(x, retries + 1);
            Check.due("state with RETRIES " + retries, x.state(1), REJECTED);
            Check.due("when", x.when(1), NONE);
            x.advance(30);
            Check.due("offers of a REJECTED request", x.offers(1), retries + 1);
        }
    }

    private static void letLeave(AdmissionControl x, int offers) {
        x.set(PATIENCE, 1);
        x.advance(offers == 1 ? 2 : 1);
        Check.due("reason", x.reason(1), 5);
        Check.due("offers", x.offers(1), offers);
        Check.due("refusals", x.refused(0, 5), offers);
    }

    // ---- 4: units of work

    static void aTickHasCapacityUnits() {
        for (int capacity = 1; capacity <= 20; capacity++) {
            AdmissionControl x = new AdmissionControl();
            x.set(PATIENCE, 60);
            x.offer(1, 0, 60);
            x.set(CAPACITY, capacity);
            x.advance(1);
            Check.due("units of a tick", x.done(0), capacity);
            Check.due("worked", x.worked(1), capacity);
            Check.due("idle", x.idle(), 0);
            x.advance(2);
            Check.due("units of three ticks", x.done(0), 3 * capacity);
        }
    }

    private static void dueUnits(int[] offered, int[] served) {
        AdmissionControl x = new AdmissionControl();
        x.set(CAPACITY, 1);
        x.set(PATIENCE, 60);
        for (int kind : offered) {
            Check.due("offer", x.offer(kind, 0, 60), 0);
        }
        int[] units = new int[3];
        for (int kind : served) {
            x.advance(1);
            units[kind]++;
            for (int other = 0; other < 3; other++) {
                Check.due("units of class " + other, x.worked(other), units[other]);
            }
        }
    }

    static void ofSeveralClassesTheLowestNumberIsTaken() {
        dueUnits(new int[] {2, 1, 0}, new int[] {0, 1, 2, 0, 1, 2, 0});
        dueUnits(new int[] {2, 1}, new int[] {1, 2, 1, 2});
        dueUnits(new int[] {2, 0}, new int[] {0, 2, 0, 2});
        dueUnits(new int[] {1, 0}, new int[] {0, 1, 0, 1});
        dueUnits(new int[] {2}, new int[] {2, 2, 2});
    }

    /** Class 0 has the pass 2520 and class 1 the pass 1260, or the other way round. */
    static void theClassWithTheLeastPassIsTaken() {
        for (int quick = 0; quick < 2; quick++) {
            AdmissionControl x = new AdmissionControl();
            x.set(CAPACITY, 1);
            x.set(PATIENCE, 60);
            x.offer(0, 0, 60);
            x.offer(1, 0, 60);
            x.setClass(quick, SHARE, 2);
            x.advance(2);
            Check.due("a unit for each", x.worked(0) * 10 + x.worked(1), 11);
            x.advance(1);
            Check.due("units of the class with the pass 1260", x.worked(quick), 2);
            Check.due("units of the class with the pass 2520", x.worked(1 - quick), 1);
        }
    }

    static void anEmptyQueueIsNotTaken() {
        AdmissionControl x = new AdmissionControl();
        x.set(CAPACITY, 3);
        x.offer(0, 0, 1);
        x.offer(1, 0, 60);
        x.advance(3);
        Check.due("units of class 0", x.worked(0), 1);
        Check.due("units of class 1", x.worked(1), 8);
        Check.due("pass of the empty class 0", x.pass(0), 2520);
        Check.due("pass of the empty class 2", x.pass(2), 0);
    }

    static void aUnitAdds2520DividedByShare() {
        int[] steps = {2520, 1260, 840, 630, 504, 420, 360, 315, 280};
        for (int share = 1; share <= 9; share++) {
            AdmissionControl x = new AdmissionControl();
            x.set(PATIENCE, 60);
            x.set(CAPACITY, 1);
            x.offer(2, 0, 60);
            x.setClass(2, SHARE, share);
            for (int units = 1; units <= 3; units++) {
                x.advance(1);
                Check.due("pass with SHARE " + share, x.pass(2), units * steps[share - 1]);
            }
        }
    }

    static void aRequestIsDoneWithAsManyUnitsAsItsCost() {
        for (int cost : new int[] {1, 2, 8, 59, 60}) {
            AdmissionControl x = new AdmissionControl();
            x.set(CAPACITY, 1);
            x.set(PATIENCE, 60);
            x.offer(0, 0, cost);
            Check.due("state before the first unit", x.state(0), WAITING);
            for (int units = 1; units < cost; units++) {
                Check.due("advance", x.advance(1), 0);
                Check.due("state after some units", x.state(0), RUNNING);
                Check.due("units", x.done(0), units);
                Check.due("when", x.when(0), NONE);
            }
            Check.due("advance to the last unit", x.advance(1), 1);
            Check.due("state after all units", x.state(0), DONE);
            Check.due("queue", x.queued(0), 0);
            Check.due("when", x.when(0), cost - 1);
            Check.due("advance after it", x.advance(1), 0);
            Check.due("units", x.done(0), cost);
            Check.due("idle", x.idle(), 1);
        }
    }

    static void theNextRequestGetsTheNextUnitOfTheSameTick() {
        AdmissionControl x = new AdmissionControl();
        x.offer(0, 0, 1);
        x.offer(0, 1, 2);
        x.offer(0, 2, 60);
        Check.due("done in a tick of 4 units", x.advance(1), 2);
        Check.due("states", x.state(0) * 100 + x.state(1) * 10 + x.state(2), 221);
        Check.due("units of the third", x.done(2), 1);
        Check.due("the first of the queue", x.queuedAt(0, 0), 2);
        Check.due("the second of the queue", x.queuedAt(0, 1), NONE);
    }

    /** 22 tokens, the price 8 and no RATE. */
    private static int afterDone(int cost, int burst) {
        AdmissionControl x = new AdmissionControl();
        x.set(CAPACITY, 20);
        x.setClass(1, RATE, 0);
        x.offer(1, 0, cost);
        x.setClass(1, BURST, burst);
        Check.due("tokens before", x.tokens(1), 22);
        Check.due("done", x.advance(1), 1);
        return x.tokens(1);
    }

    static void aCheapRequestGivesTokensBackUpToBurst() {
        int[][] rows = {{7, 99, 23}, {7, 24, 23}, {7, 23, 23}, {7, 22, 22}, {6, 23, 23}, {1, 30, 29}, {1, 29, 29},
            {1, 28, 28}, {1, 23, 23}, {1, 22, 22}};
        for (int[] row : rows) {
            Check.due("cost " + row[0] + ", BURST " + row[1], afterDone(row[0], row[1]), row[2]);
        }
    }

    static void aBucketThatHasMoreThanBurstKeepsItsTokensWhenARequestIsDone() {
        int[][] rows = {{7, 21}, {6, 21}, {1, 21}, {1, 20}, {7, 1}, {1, 1}};
        for (int[] row : rows) {
            Check.due("cost " + row[0] + ", BURST " + row[1], afterDone(row[0], row[1]), 22);
        }
    }

    static void aRequestThatCostsItsPriceChangesNoTokens() {
        for (int burst : new int[] {99, 30, 23, 22, 21, 1}) {
            Check.due("cost 8, BURST " + burst, afterDone(8, burst), 22);
        }
    }

    static void aDearRequestTakesTokensWhateverBurstIs() {
        for (int burst : new int[] {99, 23, 22, 21, 1}) {
            Check.due("cost 9, BURST " + burst, afterDone(9, burst), 21);
            Check.due("cost 20, BURST " + burst, afterDone(20, burst), 10);
        }
    }

    static void theRemainingUnitsAreIdleIfAllQueuesAreEmpty() {
        int[][] rows = {{0, 20}, {1, 19}, {19, 1}, {20, 0}, {21, 0}};
        for (int[] row : rows) {
            AdmissionControl x = new AdmissionControl();
            x.set(CAPACITY, 20);
            if (row[0] > 0) {
                x.offer(2, 0, row[0]);
            }
            x.advance(1);
            Check.due("idle units beside the cost " + row[0], x.idle(), row[1]);
            Check.due("units of work", x.worked(2), 20 - row[1]);
        }
        AdmissionControl x = new AdmissionControl();
        x.set(CAPACITY, 1);
        x.set(PATIENCE, 60);
        x.advance(3);
        Check.due("idle units of three ticks with CAPACITY 1", x.idle(), 3);
        x.offer(0, 0, 1);
        x.offer(2, 0, 1);
        x.advance(3);
        Check.due("idle units", x.idle(), 4);
    }

    static void theClockIsIncreasedAtTheEndOfATick() {
        AdmissionControl x = new AdmissionControl();
        x.offer(0, 0, 1);
        x.advance(1);
        Check.due("clock", x.clock(), 1);
        Check.due("the clock before the tick in which it was done", x.when(0), 0);
        x.offer(0, 0, 5);
        x.advance(2);
        Check.due("clock", x.clock(), 3);
        Check.due("the clock before the tick in which it was done", x.when(1), 2);
    }

    // ---- estimates

    private static void dueEstimates(int shape, int[] costsAndEstimates) {
        AdmissionControl x = new AdmissionControl();
        x.set(CAPACITY, 20);
        for (int i = 0; i < costsAndEstimates.length; i += 2) {
            Check.due("offer", x.offer(i / 2 % 3, shape, costsAndEstimates[i]), 0);
            Check.due("done", x.advance(1), 1);
            Check.due("estimate after the cost " + costsAndEstimates[i], x.estimate(shape), costsAndEstimates[i + 1]);
        }
        for (int other = 0; other < 5; other++) {
            Check.due("another estimate", other == shape ? 128 : x.estimate(other), 128);
        }
    }

    /** -112 / 4, -84 / 4, -63 / 4, -48 / 4, -36 / 4, -27 / 4, -21 / 4, -16 / 4, -12 / 4, -9 / 4, -7, -6, -5, -4, -3. */
    static void anEstimateThatFallsIsRoundedTowardZero() {
        for (int shape = 0; shape < 5; shape++) {
            dueEstimates(shape, new int[] {1, 100, 1, 79, 1, 64, 1, 52, 1, 43, 1, 37, 1, 32, 1, 28, 1, 25, 1, 23, 1, 22,
                1, 21, 1, 20, 1, 19, 1, 19, 1, 19});
        }
    }

    /** 16 / 4, 12 / 4, 9 / 4, 7 / 4, 6 / 4, 5 / 4, 4 / 4, 3 / 4 after the estimate 64. */
    static void anEstimateThatRisesIsRoundedTowardZero() {
        dueEstimates(3, new int[] {1, 100, 1, 79, 1, 64, 5, 68, 5, 71, 5, 73, 5, 74, 5, 75, 5, 76, 5, 77, 5, 77});
    }

    static void anEstimateOfTheCostStays() {
        dueEstimates(4, new int[] {8, 128, 8, 128, 20, 176, 11, 176});
    }

    static void anEstimateIsLearnedOnlyWhenTheRequestIsDone() {
        AdmissionControl x = new AdmissionControl();
        x.set(CAPACITY, 1);
        x.set(PATIENCE, 60);
        x.offer(0, 2, 5);
        for (int units = 0; units < 5; units++) {
            Check.due("estimate after " + units + " units", x.estimate(2), 128);
            x.advance(1);
        }
        Check.due("estimate: 128 + (80 - 128) / 4", x.estimate(2), 116);
        x.setClass(1, LIMIT, 1);
        x.offer(1, 2, 60);
        x.advance(20);
        Check.due("a REJECTED request teaches nothing", x.estimate(2), 116);
    }
}
