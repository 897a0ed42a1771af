/** The bounds of promises 31 to 35. */
public final class EdgesOfWhatIfTest implements Names {
    public static void main(String[] args) {
        Check.each(EdgesOfWhatIfTest.class);
        Check.end("EdgesOfWhatIfTest");
    }

    // ---- wouldRefuse; each reason at its bound stands in EdgesOfOfferTest

    static void wouldRefuseTakesTheClasses0To2AndTheShapes0To4() {
        for (int no : new int[] {-1, 3, Integer.MIN_VALUE, Integer.MAX_VALUE}) {
            Twins.unchanged("wouldRefuse(" + no + ", 0)", x -> x.wouldRefuse(no, 0), NO_SUCH);
        }
        for (int no : new int[] {-1, 5, Integer.MIN_VALUE, Integer.MAX_VALUE}) {
            Twins.unchanged("wouldRefuse(0, " + no + ")", x -> x.wouldRefuse(0, no), NO_SUCH);
        }
        AdmissionControl x = new AdmissionControl();
        x.set(CAPACITY, 20);
        x.offer(0, 4, 60);
        x.advance(3);
        x.setClass(2, LIMIT, 8);
        Check.due("the price 8 of the shape 0 in the class 2", x.wouldRefuse(2, 0), 0);
        Check.due("the price 21 of the shape 4 in the class 2", x.wouldRefuse(2, 4), 1);
        Check.due("the price 21 of the shape 4 in the class 1", x.wouldRefuse(1, 4), 0);
        Check.due("few tokens in the class 0", x.wouldRefuse(0, 0), 4);
    }

    /** It has no code for the lack of room: a new request is refused for a reason or not at all. */
    static void wouldRefuseDoesNotLookAtTheRoomForRequests() {
        AdmissionControl x = new AdmissionControl();
        x.setClass(0, LIMIT, 7);
        for (int i = 0; i < 32; i++) {
            x.offer(0, 0, 1);
        }
        Check.due("wouldRefuse(0, 0) with 32 requests", x.wouldRefuse(0, 0), 1);
        Check.due("wouldRefuse(1, 0) with 32 requests", x.wouldRefuse(1, 0), 0);
        Check.due("offer(1, 0, 1) with 32 requests", x.offer(1, 0, 1), TOO_MANY);
    }

    static void wouldRefuseRefusesNothing() {
        AdmissionControl x = new AdmissionControl();
        x.setClass(0, LIMIT, 7);
        Check.due("wouldRefuse", x.wouldRefuse(0, 0), 1);
        Check.due("wouldRefuse", x.wouldRefuse(1, 0), 0);
        Check.due("refusals", x.refused(0, 1), 0);
        Check.due("requests", x.requests(), 0);
        Check.due("tokens", x.tokens(1), 30);
        Check.due("undo of setClass", x.undo(), 0);
    }

    // ---- ticksLeft

    static void ticksLeftIs0WithoutRequestsThatAreLeft() {
        AdmissionControl x = new AdmissionControl();
        Check.due("no requests", x.ticksLeft(), 0);
        x.offer(0, 0, 4);
        Check.due("one request", x.ticksLeft(), 1);
        x.advance(1);
        Check.due("DONE", x.ticksLeft(), 0);
        x.set(RETRIES, 0);
        x.setClass(0, LIMIT, 6);
        x.offer(0, 0, 4);
        Check.due("REJECTED", x.ticksLeft(), 0);
    }

    static void ticksLeftCountsTheLastTickWhole() {
        int[][] rows = {{1, 1}, {3, 1}, {4, 1}, {5, 2}, {8, 2}, {9, 3}, {59, 15}, {60, 15}};
        for (int[] row : rows) {
            AdmissionControl x = new AdmissionControl();
            x.offer(0, 0, row[0]);
            Check.due("the cost " + row[0] + ", 4 units in a tick", x.ticksLeft(), row[1]);
            x.advance(row[1] - 1);
            Check.due("before the last tick", x.ticksLeft(), 1);
            x.advance(1);
            Check.due("after the last tick", x.ticksLeft(), 0);
        }
    }

    /** BACKOFF 3: offered again in the tick 3, the fourth one. */
    static void ticksLeftCountsUntilARequestIsRejected() {
        AdmissionControl x = new AdmissionControl();
        x.setClass(0, LIMIT, 7);
        x.offer(0, 0, 1);
        for (int left = 4; left > 0; left--) {
            Check.due("ticks left", x.ticksLeft(), left);
            x.advance(1);
        }
        Check.due("REJECTED", x.state(0), REJECTED);
        Check.due("ticks left", x.ticksLeft(), 0);
    }

    // ---- the 400 ticks

    /**
     * Requests 6 (class 0) and 7 (class 1), offered at the clock 18, are refused for their tokens and
     * admitted 20 + 40 + 80 + 160 = 300 ticks later, in the tick 318. The first six requests leave -150
     * tokens (30 - 3 * 60) in each bucket, which get 1 in a tick: -129, -89 and -9 at the ticks 38, 78
     * and 158, and 30 at 318. Both passes are equal then; class 0 gets the first unit.
     */
    private static AdmissionControl with300TicksBefore(int cost0, int cost1) {
        AdmissionControl x = new AdmissionControl();
        x.set(CAPACITY, 20);
        x.set(PATIENCE, 60);
        x.set(BACKOFF, 20);
        x.set(RETRIES, 4);
        for (int kind = 0; kind < 2; kind++) {
            x.setClass(kind, RATE, 0);
            for (int i = 0; i < 3; i++) {
                Check.due("offer", x.offer(kind, 0, 60), 0);
            }
        }
        Check.due("360 units in 18 ticks", x.advance(18), 6);
        x.set(CAPACITY, 1);
        int[] costs = {cost0, cost1};
        for (int kind = 0; kind < 2; kind++) {
            Check.due("tokens", x.tokens(kind), -150);
            x.setClass(kind, RATE, 1);
            Check.due("offer", x.offer(kind, 1, costs[kind]), 4);
        }
        return x;
    }

    static void ticksLeftLooks400TicksAhead() {
        Check.due("399 ticks", with300TicksBefore(60, 39).ticksLeft(), 399);
        Check.due("400 ticks", with300TicksBefore(60, 40).ticksLeft(), 400);
        Check.due("401 ticks", with300TicksBefore(60, 41).ticksLeft(), NONE);
        AdmissionControl x = with300TicksBefore(60, 41);
        x.advance(1);
        Check.due("401 ticks, a tick later", x.ticksLeft(), 400);
    }

    static void ticksIfLooks400TicksAhead() {
        Check.due("399 ticks", with300TicksBefore(60, 39).ticksIf(1), 399);
        Check.due("400 ticks", with300TicksBefore(60, 40).ticksIf(1), 400);
        Check.due("401 ticks", with300TicksBefore(60, 41).ticksIf(1), NONE);
        Check.due("300 ticks and 101 / 2", with300TicksBefore(60, 41).ticksIf(2), 351);
        Check.due("300 ticks and 101 / 20", with300TicksBefore(60, 41).ticksIf(20), 306);
        Check.due("300 ticks and 100 / 20", with300TicksBefore(60, 40).ticksIf(20), 305);
    }

    static void leastCapacityLooks400TicksAhead() {
        Check.due("400 ticks with CAPACITY 1", with300TicksBefore(60, 40).leastCapacity(), 1);
        Check.due("401 ticks with CAPACITY 1", with300TicksBefore(60, 41).leastCapacity(), 2);
        AdmissionControl x = with300TicksBefore(60, 41);
        x.set(CAPACITY, 20);
        Check.due("401 ticks with CAPACITY 1, 306 with the present one", x.leastCapacity(), 2);
    }

    /** Units by turns: class 1 gets its 40th in the tick 318 + 79, class 0 its 60th in the tick 318 + 99. */
    static void finishLooks400TicksAhead() {
        AdmissionControl x = with300TicksBefore(60, 40);
        Check.due("the 40 units", x.finish(7), 397);
        Check.due("the 60 units, in the tick 400 from now", x.finish(6), 18 + 399);
        AdmissionControl y = with300TicksBefore(60, 41);
        Check.due("the 41 units", y.finish(7), 399);
        Check.due("the 60 units, in the tick 401 from now", y.finish(6), NONE);
        y.advance(1);
        Check.due("the 60 units, a tick later", y.finish(6), 18 + 400);
        Check.due("state", y.state(6), DELAYED);
    }

    static void theTicksComeAsTold() {
        AdmissionControl x = with300TicksBefore(60, 40);
        for (int i = 0; i < 4; i++) {
            x.advance(99);
        }
        Check.due("clock", x.clock(), 18 + 396);
        Check.due("done", x.advance(3), 0);
        Check.due("done in the tick 417", x.advance(1), 1);
        Check.due("when of request 6", x.when(6), 417);
        Check.due("when of request 7", x.when(7), 397);
        Check.due("ticks left", x.ticksLeft(), 0);
    }

    // ---- the bound of the clock

    private static AdmissionControl at999() {
        AdmissionControl x = new AdmissionControl();
        for (int i = 0; i < 10; i++) {
            x.advance(99);
        }
        x.advance(9);
        x.set(PATIENCE, 60);
        x.offer(0, 0, 60);
        x.setClass(1, LIMIT, 7);
        x.offer(1, 0, 7);
        x.setClass(1, LIMIT, 8);
        Check.due("clock", x.clock(), 999);
        Check.due("when", x.when(1), 1002);
        return x;
    }

    /** Request 1 comes in the tick 1002; 17 ticks of 4 units have room for the 60 and 7 units of both. */
    static void theBoundOfTheClockDoesNotMatter() {
        Check.due("advance", at999().advance(1), TOO_MANY);
        Check.due("67 units, 4 in a tick", at999().ticksLeft(), 17);
        Check.due("60 units in 3 ticks, 7 units in the next", at999().ticksIf(20), 4);
        Check.due("67 units, 1 in a tick", at999().ticksIf(1), 67);
        Check.due("leastCapacity", at999().leastCapacity(), 1);
        Check.due("finish of request 0", at999().finish(0), 999 + 16);
        Check.due("clock", at999().clock(), 999);
    }

    static void finishTellsTicksBeyond999() {
        AdmissionControl x = new AdmissionControl();
        for (int i = 0; i < 10; i++) {
            x.advance(99);
        }
        x.advance(8);
        x.offer(0, 0, 4);
        Check.due("finish at 998", x.finish(0), 998);
        x.advance(1);
        x.offer(0, 0, 4);
        x.offer(0, 0, 1);
        Check.due("finish at 999", x.finish(1), 999);
        Check.due("finish at 1000", x.finish(2), 1000);
        Check.due("ticksLeft", x.ticksLeft(), 2);
    }

    // ---- ticksIf

    static void ticksIfTakes1To20() {
        for (int no : new int[] {0, 21, -1, Integer.MIN_VALUE, Integer.MAX_VALUE}) {
            Twins.unchanged("ticksIf(" + no + ")", x -> x.ticksIf(no), BAD_VALUE);
        }
        AdmissionControl x = new AdmissionControl();
        x.offer(0, 0, 60);
        int[] ticks = {60, 30, 20, 15, 12, 10, 9, 8, 7, 6, 6, 5, 5, 5, 4, 4, 4, 4, 4, 3};
        for (int capacity = 1; capacity <= 20; capacity++) {
            Check.due("ticksIf(" + capacity + ")", x.ticksIf(capacity), ticks[capacity - 1]);
        }
        Check.due("ticksLeft", x.ticksLeft(), 15);
        Check.due("CAPACITY", x.setting(CAPACITY), 4);
    }

    static void ticksIfLooksAtTheCapacityBeforeTheTicks() {
        Check.due("ticksIf(0), 401 ticks", with300TicksBefore(60, 41).ticksIf(0), BAD_VALUE);
        Check.due("ticksIf(21), no requests", new AdmissionControl().ticksIf(21), BAD_VALUE);
        Check.due("ticksIf(20), no requests", new AdmissionControl().ticksIf(20), 0);
    }

    /** The CAPACITY counts for the expected wait, too: 24 / CAPACITY. */
    static void ticksIfChangesTheExpectedWait() {
        AdmissionControl x = new AdmissionControl();
        x.setClass(0, LIMIT, 7);
        x.offer(0, 0, 12);
        x.setClass(0, LIMIT, 8);
        x.set(PATIENCE, 6);
        Check.due("a wait of 6, 12 units from the tick 3 on", x.ticksIf(4), 3 + 3);
        Check.due("a wait of 8, REJECTED in the tick 3", x.ticksIf(3), 3 + 1);
        Check.due("a wait of 1, 12 units in the tick 3", x.ticksIf(12), 3 + 1);
        Check.due("leastCapacity", x.leastCapacity(), 4);
    }

    // ---- leastCapacity

    /** The second request leaves in the tick 3 if the first one has not all its units in the ticks 0 to 2. */
    private static AdmissionControl withTwo(int cost) {
        AdmissionControl x = new AdmissionControl();
        x.set(CAPACITY, 20);
        x.set(PATIENCE, 3);
        x.set(RETRIES, 0);
        Check.due("offer", x.offer(1, 0, cost), 0);
        Check.due("offer", x.offer(1, 0, 1), 0);
        return x;
    }

    /** The least CAPACITY has 3 * CAPACITY > cost: a unit of the tick 2 is left for the second request. */
    static void leastCapacityIs1To20() {
        int[][] rows = {{1, 1}, {2, 1}, {3, 2}, {5, 2}, {6, 3}, {53, 18}, {54, 19}, {56, 19}, {57, 20}, {59, 20},
            {60, NONE}};
        for (int[] row : rows) {
            Check.due("leastCapacity with the cost " + row[0], withTwo(row[0]).leastCapacity(), row[1]);
        }
    }

    static void leastCapacityIs1WithoutRequests() {
        AdmissionControl x = new AdmissionControl();
        Check.due("no requests", x.leastCapacity(), 1);
        x.offer(0, 0, 4);
        x.advance(1);
        Check.due("all are DONE", x.leastCapacity(), 1);
    }

    static void aRequestThatIsRejectedAlreadyDoesNotMatter() {
        AdmissionControl x = withTwo(57);
        x.setClass(0, LIMIT, 7);
        Check.due("offer", x.offer(0, 0, 1), 1);
        Check.due("state", x.state(2), REJECTED);
        Check.due("leastCapacity", x.leastCapacity(), 20);
    }

    static void aRequestThatWouldBecomeRejectedMatters() {
        AdmissionControl x = new AdmissionControl();
        x.setClass(0, LIMIT, 7);
        x.offer(0, 0, 1);
        Check.due("refused with any CAPACITY", x.leastCapacity(), NONE);
        x.setClass(0, LIMIT, 8);
        Check.due("admitted in the tick 3", x.leastCapacity(), 2);
        x.set(PATIENCE, 24);
        Check.due("a wait of 24 with CAPACITY 1", x.leastCapacity(), 1);
        x.set(PATIENCE, 23);
        Check.due("a wait of 24 with CAPACITY 1 is too long", x.leastCapacity(), 2);
    }

    /**
     * Request 1 is offered again in the tick 3, with a wait of 24 / CAPACITY: 8 is too long, 6 is not. With
     * 10 units in a tick, request 0 is done before, and its cost makes the price 13, which is above the LIMIT.
     */
    static void moreCapacityCanBeWorse() {
        AdmissionControl x = new AdmissionControl();
        x.set(PATIENCE, 6);
        Check.due("offer", x.offer(0, 0, 30), 0);
        x.setClass(1, LIMIT, 7);
        Check.due("offer", x.offer(1, 0, 1), 1);
        x.setClass(1, LIMIT, 12);
        int[][] rows = {{1, NONE}, {2, NONE}, {3, NONE}, {4, 3}, {5, 3}, {9, 3}, {10, NONE}, {11, NONE}, {20, NONE}};
        for (int[] row : rows) {
            x.set(CAPACITY, row[0]);
            Check.due("finish with CAPACITY " + row[0], x.finish(1), row[1]);
            Check.due("leastCapacity with CAPACITY " + row[0], x.leastCapacity(), 4);
        }
        x.setClass(1, LIMIT, 13);
        Check.due("finish with CAPACITY 20, LIMIT 13", x.finish(1), 3);
    }

    /**
     * The second request leaves in the tick 3 and is offered again in the tick 6. With CAPACITY 7, the
     * wait is (1 + 8) * 3 / 7 = 3, and it gets the unit 61, in the tick 8; with CAPACITY 6, the wait is 4.
     */
    static void aRequestThatIsDelayedOnTheWayDoesNotMatter() {
        for (int retries = 0; retries <= 1; retries++) {
            AdmissionControl x = new AdmissionControl();
            x.set(CAPACITY, 20);
            x.set(PATIENCE, 3);
            x.set(RETRIES, retries);
            x.setClass(1, RATE, 20);
            x.setClass(1, BURST, 99);
            x.offer(1, 0, 60);
            x.offer(1, 1, 1);
            Check.due("finish with CAPACITY 20, RETRIES " + retries, x.finish(1), retries == 0 ? NONE : 6);
            Check.due("leastCapacity, RETRIES " + retries, x.leastCapacity(), retries == 0 ? NONE : 7);
            x.set(CAPACITY, 7);
            Check.due("finish with CAPACITY 7, RETRIES " + retries, x.finish(1), retries == 0 ? NONE : 8);
            x.set(CAPACITY, 6);
            Check.due("finish with CAPACITY 6, RETRIES " + retries, x.finish(1), NONE);
        }
    }

    // ---- finish

    static void finishTakesTheRequestsFrom0() {
        for (int no : new int[] {-1, 5, 31, 32, Integer.MIN_VALUE, Integer.MAX_VALUE}) {
            Twins.unchanged("finish(" + no + ")", x -> x.finish(no), NO_SUCH);
        }
        AdmissionControl x = new AdmissionControl();
        Check.due("finish(0) of none", x.finish(0), NO_SUCH);
        x.offer(0, 0, 1);
        Check.due("finish(0) of one", x.finish(0), 0);
        Check.due("finish(1) of one", x.finish(1), NO_SUCH);
        x.setClass(0, LIMIT, 1);
        for (int i = 1; i < 32; i++) {
            x.offer(0, 0, 1);
        }
        Check.due("finish(31) of 32", x.finish(31), NONE);
        Check.due("finish(32) of 32", x.finish(32), NO_SUCH);
    }

    static void finishOfARequestThatIsDoneIsItsTick() {
        AdmissionControl x = new AdmissionControl();
        x.advance(5);
        x.offer(0, 0, 5);
        Check.due("WAITING", x.finish(0), 6);
        x.advance(1);
        Check.due("RUNNING", x.finish(0), 6);
        x.advance(1);
        Check.due("DONE", x.finish(0), 6);
        x.advance(99);
        Check.due("DONE long ago", x.finish(0), 6);
        for (int i = 0; i < 8; i++) {
            x.advance(99);
        }
        Check.due("DONE more than 400 ticks ago", x.finish(0), 6);
    }

    static void finishOfARequestThatIsRejectedIsNone() {
        AdmissionControl x = new AdmissionControl();
        x.setClass(0, LIMIT, 7);
        x.offer(0, 0, 1);
        Check.due("it would become REJECTED", x.finish(0), NONE);
        x.setClass(0, LIMIT, 8);
        Check.due("it would be admitted in the tick 3", x.finish(0), 3);
        x.setClass(0, LIMIT, 7);
        x.advance(4);
        Check.due("state", x.state(0), REJECTED);
        x.setClass(0, LIMIT, 8);
        Check.due("it is REJECTED for good", x.finish(0), NONE);
    }

    /** PATIENCE 3: the second request must get its unit before the tick 3; three ticks have 60 units. */
    static void finishTellsWhetherARequestWouldWaitTooLong() {
        Check.due("the unit 60 of the tick 2", withTwo(59).finish(1), 2);
        Check.due("no unit before the tick 3", withTwo(60).finish(1), NONE);
        Check.due("the first one", withTwo(60).finish(0), 2);
    }
}
