/** Promises 31 to 35: wouldRefuse, ticksLeft, ticksIf, leastCapacity, finish. */
public final class WhatIfTest {
    private static final int NO_SUCH = -100001, BAD_VALUE = -100002, NONE = -100005;
    private static final int CAPACITY = 0, PATIENCE = 1, BACKOFF = 2, RETRIES = 3;
    private static final int RATE = 1, LIMIT = 3;

    public static void main(String[] args) {
        promise31WouldRefuse();
        promise31IsTheAnswerOfOffer();
        promise32TicksLeft();
        promise33TicksIf();
        promise34LeastCapacity();
        promise35Finish();
        promises32To35AtTheHorizon();
        promises32To35BeyondTheClock();
        theyChangeNothing();
        Check.end("WhatIfTest");
    }

    private static void promise31WouldRefuse() {
        AdmissionControl x = new AdmissionControl();
        Check.due("wouldRefuse", x.wouldRefuse(2, 4), 0);
        x.setClass(1, LIMIT, 7);
        Check.due("for the LIMIT", x.wouldRefuse(1, 0), 1);
        Check.due("in another class", x.wouldRefuse(0, 0), 0);
        x.set(PATIENCE, 5);
        Check.due("for the wait", x.wouldRefuse(0, 0), 3);
        x.set(PATIENCE, 60);
        for (int i = 0; i < 3; i++) {
            x.offer(0, 0, 60);
        }
        Check.due("for the tokens", x.wouldRefuse(0, 0), 4);
        x.set(CAPACITY, 20);
        x.setClass(2, RATE, 20);
        x.setClass(2, 2, 99);
        x.advance(2);
        for (int i = 0; i < 8; i++) {
            Check.due("offer", x.offer(2, 0, 60), 0);
        }
        Check.due("for the queue", x.wouldRefuse(2, 0), 2);
        Check.due("refusals are not counted", x.refused(0, 4), 0);
        for (int i = x.requests(); i < 32; i++) {
            x.offer(1, 0, 1);
        }
        Check.due("the room for requests does not matter", x.wouldRefuse(1, 0), 1);
        for (int far : new int[] {-1, 5, Integer.MIN_VALUE, Integer.MAX_VALUE}) {
            Check.due("no such class", x.wouldRefuse(far, 0), NO_SUCH);
            Check.due("no such shape", x.wouldRefuse(0, far), NO_SUCH);
        }
        Check.due("no such class", x.wouldRefuse(3, 0), NO_SUCH);
    }

    private static void promise31IsTheAnswerOfOffer() {
        Numbers numbers = new Numbers(31);
        for (int run = 0; run < 40; run++) {
            AdmissionControl x = new AdmissionControl();
            x.set(PATIENCE, numbers.between(5, 60));
            x.setClass(0, LIMIT, numbers.between(5, 20));
            for (int i = 0; i < 32; i++) {
                int kind = numbers.below(3);
                int shape = numbers.below(5);
                int would = x.wouldRefuse(kind, shape);
                Check.due("offer after wouldRefuse", x.offer(kind, shape, numbers.between(1, 60)), would);
                x.advance(numbers.between(1, 4));
            }
        }
    }

    private static void promise32TicksLeft() {
        AdmissionControl x = new AdmissionControl();
        Check.due("ticksLeft without requests", x.ticksLeft(), 0);
        x.offer(0, 0, 60);
        Check.due("60 units, 4 in a tick", x.ticksLeft(), 15);
        x.offer(1, 0, 1);
        Check.due("61 units", x.ticksLeft(), 16);
        x.advance(1);
        Check.due("a tick later", x.ticksLeft(), 15);
        x.advance(14);
        Check.due("a tick before the end", x.ticksLeft(), 1);
        x.advance(1);
        Check.due("at the end", x.ticksLeft(), 0);
        x.setClass(2, LIMIT, 7);
        x.offer(2, 1, 1);
        Check.due("DELAYED until it is REJECTED, in the tick in which it is due", x.ticksLeft(), 3 + 1);
        x.set(RETRIES, 0);
        x.advance(4);
        Check.due("REJECTED", x.ticksLeft(), 0);
    }

    private static AdmissionControl withTwoOf60() {
        AdmissionControl x = new AdmissionControl();
        x.set(CAPACITY, 20);
        x.set(PATIENCE, 6);
        x.set(RETRIES, 0);
        Check.due("offer", x.offer(0, 0, 60), 0);
        Check.due("offer", x.offer(0, 0, 60), 0);
        return x;
    }

    private static void promise33TicksIf() {
        AdmissionControl x = withTwoOf60();
        Check.due("ticksIf(0)", x.ticksIf(0), BAD_VALUE);
        Check.due("ticksIf(21)", x.ticksIf(21), BAD_VALUE);
        Check.due("ticksIf(-2^31)", x.ticksIf(Integer.MIN_VALUE), BAD_VALUE);
        Check.due("ticksIf(20)", x.ticksIf(20), 6);
        Check.due("ticksIf(11)", x.ticksIf(11), 11);
        Check.due("ticksIf(10): the second one is REJECTED in the tick 6", x.ticksIf(10), 7);
        Check.due("ticksIf(1)", x.ticksIf(1), 60);
        Check.due("the CAPACITY stays", x.setting(CAPACITY), 20);
        Check.due("ticksLeft", x.ticksLeft(), 6);
        Check.due("ticksIf without requests", new AdmissionControl().ticksIf(1), 0);
    }

    private static void promise34LeastCapacity() {
        Check.due("leastCapacity without requests", new AdmissionControl().leastCapacity(), 1);
        AdmissionControl x = withTwoOf60();
        Check.due("the second one has to be begun in the tick 5", x.leastCapacity(), 11);
        x.set(RETRIES, 1);
        Check.due("it may be offered once more", x.leastCapacity() < 11 ? 1 : 0, 1);
        x.set(RETRIES, 0);
        x.set(CAPACITY, 1);
        Check.due("the present CAPACITY does not matter", x.leastCapacity(), 11);
        x.set(CAPACITY, 20);
        x.setClass(1, LIMIT, 7);
        x.offer(1, 1, 1);
        Check.due("a request that is REJECTED already does not matter", x.leastCapacity(), 11);
        x.set(RETRIES, 1);
        x.offer(1, 1, 1);
        Check.due("a request that is refused with any CAPACITY", x.leastCapacity(), NONE);

        AdmissionControl y = new AdmissionControl();
        y.setClass(2, LIMIT, 7);
        y.offer(2, 0, 1);
        Check.due("the first request is refused with any CAPACITY", y.leastCapacity(), NONE);

        Check.due("59 units before the tick 3", withTwoAndPatience3(59).leastCapacity(), 20);
        Check.due("60 units before the tick 3", withTwoAndPatience3(60).leastCapacity(), NONE);
        Check.due("38 units before the tick 3", withTwoAndPatience3(38).leastCapacity(), 13);
        Check.due("39 units before the tick 3", withTwoAndPatience3(39).leastCapacity(), 14);
    }

    /** The second request has to be begun in the tick 2. */
    private static AdmissionControl withTwoAndPatience3(int cost) {
        AdmissionControl x = new AdmissionControl();
        x.set(CAPACITY, 20);
        x.set(PATIENCE, 3);
        x.set(RETRIES, 0);
        x.offer(1, 0, cost);
        x.offer(1, 0, 1);
        return x;
    }

    private static void promise35Finish() {
        AdmissionControl x = withTwoOf60();
        Check.due("finish of the first", x.finish(0), 2);
        Check.due("finish of the second", x.finish(1), 5);
        x.set(CAPACITY, 10);
        Check.due("finish of the first", x.finish(0), 5);
        Check.due("it would become REJECTED", x.finish(1), NONE);
        x.set(CAPACITY, 20);
        x.advance(4);
        Check.due("finish of a request that is DONE", x.finish(0), 2);
        Check.due("finish of a RUNNING request", x.finish(1), 5);
        x.setClass(1, LIMIT, 7);
        x.offer(1, 0, 1);
        Check.due("finish of a request that is REJECTED", x.finish(2), NONE);
        x.set(RETRIES, 1);
        x.offer(1, 1, 1);
        x.setClass(1, LIMIT, 8);
        Check.due("when", x.when(3), 7);
        Check.due("finish of a DELAYED request", x.finish(3), 7);
        Check.due("finish(4)", x.finish(4), NO_SUCH);
        Check.due("finish(-1)", x.finish(-1), NO_SUCH);
    }

    /**
     * Each class has a request that is refused four times for the tokens and admitted 300 ticks from
     * now; the three take 180 units then, one in a tick.
     */
    private static AdmissionControl withWorkIn300Ticks() {
        AdmissionControl x = new AdmissionControl();
        x.set(CAPACITY, 20);
        x.set(PATIENCE, 60);
        x.set(BACKOFF, 20);
        x.set(RETRIES, 4);
        for (int kind = 0; kind < 3; kind++) {
            x.setClass(kind, RATE, 0);
            for (int i = 0; i < 3; i++) {
                Check.due("offer", x.offer(kind, 0, 60), 0);
            }
        }
        Check.due("done", x.advance(27), 9);
        x.set(CAPACITY, 1);
        for (int kind = 0; kind < 3; kind++) {
            Check.due("tokens", x.tokens(kind), 6 - 3 * 52);
            x.setClass(kind, RATE, 1);
            Check.due("offer", x.offer(kind, 1, 60), 4);
        }
        return x;
    }

    private static void promises32To35AtTheHorizon() {
        AdmissionControl x = withWorkIn300Ticks();
        int start = x.clock();
        Check.due("480 ticks", x.ticksLeft(), NONE);
        Check.due("480 ticks", x.ticksIf(1), NONE);
        Check.due("300 and 90 ticks", x.ticksIf(2), 390);
        Check.due("300 and 9 ticks", x.ticksIf(20), 309);
        Check.due("leastCapacity", x.leastCapacity(), 2);
        Check.due("finish", x.finish(11), NONE);
        x.advance(77);
        Check.due("401st tick", x.finish(9), NONE);
        x.advance(1);
        Check.due("400th tick", x.finish(9), start + 477);
        Check.due("401st tick", x.finish(10), NONE);
        x.advance(1);
        Check.due("401 ticks", x.ticksLeft(), NONE);
        Check.due("401 ticks", x.ticksIf(1), NONE);
        Check.due("leastCapacity", x.leastCapacity(), 2);
        Check.due("401st tick", x.finish(11), NONE);
        x.advance(1);
        Check.due("400 ticks", x.ticksLeft(), 400);
        Check.due("400 ticks", x.ticksIf(1), 400);
        Check.due("leastCapacity", x.leastCapacity(), 1);
        Check.due("400th tick", x.finish(11), start + 479);
        for (int i = 0; i < 4; i++) {
            x.advance(99);
        }
        Check.due("done before the last four ticks", x.done(9) + x.done(10) + x.done(11), 176);
        Check.due("done in the last four ticks", x.advance(4), 3);
        Check.due("when", x.when(11), start + 479);
        Check.due("offers", x.offers(11), 5);
    }

    private static void promises32To35BeyondTheClock() {
        AdmissionControl x = new AdmissionControl();
        for (int i = 0; i < 10; i++) {
            x.advance(99);
        }
        x.advance(9);
        x.offer(0, 0, 8);
        Check.due("clock", x.clock(), 999);
        Check.due("finish", x.finish(0), 1000);
        Check.due("ticksLeft", x.ticksLeft(), 2);
        Check.due("ticksIf(1)", x.ticksIf(1), 8);
        Check.due("leastCapacity", x.leastCapacity(), 1);
    }

    private static void theyChangeNothing() {
        AdmissionControl x = withWorkIn300Ticks();
        x.advance(20);
        String before = Picture.of(x);
        x.ticksLeft();
        x.ticksIf(7);
        x.leastCapacity();
        for (int request = -1; request <= x.requests(); request++) {
            x.finish(request);
        }
        for (int kind = 0; kind < 3; kind++) {
            x.wouldRefuse(kind, 1);
        }
        Check.holds("the questions change nothing", before.equals(Picture.of(x)));
        Check.due("they are no actions", x.undo(), 3);
    }
}
