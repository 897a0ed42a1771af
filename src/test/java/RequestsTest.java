/** Promises 24 to 30: the questions about requests. */
public final class RequestsTest {
    private static final int NO_SUCH = -100001, NONE = -100005;
    private static final int WAITING = 0, RUNNING = 1, DONE = 2, DELAYED = 3, REJECTED = 4;

    public static void main(String[] args) {
        promise24Requests();
        promises25To30OfOneRequest();
        promise26PriceIsDeterminedAnew();
        promise29Reason();
        noSuchRequest();
        Check.end("RequestsTest");
    }

    private static void promise24Requests() {
        AdmissionControl x = new AdmissionControl();
        Check.due("requests", x.requests(), 0);
        x.offer(0, 0, 0);
        Check.due("requests after an error", x.requests(), 0);
        x.offer(0, 0, 1);
        x.setClass(0, 3, 1);
        x.offer(0, 0, 1);
        Check.due("a refused request counts", x.requests(), 2);
        x.advance(20);
        Check.due("a request that is offered again is no new one", x.requests(), 2);
        x.wouldRefuse(0, 0);
        Check.due("wouldRefuse offers nothing", x.requests(), 2);
    }

    private static void due(AdmissionControl x, String at, int... want) {
        Check.due(at + ": state", x.state(0), want[0]);
        Check.due(at + ": price", x.price(0), want[1]);
        Check.due(at + ": done", x.done(0), want[2]);
        Check.due(at + ": offers", x.offers(0), want[3]);
        Check.due(at + ": reason", x.reason(0), want[4]);
        Check.due(at + ": when", x.when(0), want[5]);
    }

    private static void promises25To30OfOneRequest() {
        AdmissionControl x = new AdmissionControl();
        x.advance(10);
        x.setClass(0, 3, 7);
        x.offer(0, 0, 6);
        due(x, "refused", DELAYED, 8, 0, 1, 1, 13);
        x.setClass(0, 3, 8);
        x.set(0, 1);
        x.setClass(1, 1, 20);
        x.advance(3);
        due(x, "not yet due", DELAYED, 8, 0, 1, 1, 13);
        x.set(1, 60);
        x.offer(1, 0, 5);
        x.advance(1);
        due(x, "offered again, behind another class", RUNNING, 8, 1, 2, 1, NONE);
        x.advance(20);
        due(x, "done", DONE, 8, 6, 2, 1, 23);

        AdmissionControl y = new AdmissionControl();
        y.offer(0, 0, 5);
        due(y, "admitted", WAITING, 8, 0, 1, 0, NONE);
        y.advance(1);
        due(y, "begun", RUNNING, 8, 4, 1, 0, NONE);
        y.advance(1);
        due(y, "done", DONE, 8, 5, 1, 0, 1);

        AdmissionControl z = new AdmissionControl();
        z.set(3, 0);
        z.set(1, 5);
        z.offer(0, 0, 5);
        due(z, "rejected", REJECTED, 8, 0, 1, 3, NONE);
        z.advance(50);
        due(z, "rejected for good", REJECTED, 8, 0, 1, 3, NONE);
    }

    private static void promise26PriceIsDeterminedAnew() {
        AdmissionControl x = new AdmissionControl();
        x.set(0, 20);
        x.offer(0, 0, 60);
        x.offer(0, 0, 4);
        x.setClass(1, 3, 1);
        x.offer(1, 0, 2);
        x.setClass(1, 3, 99);
        x.advance(3);
        Check.due("estimate", x.estimate(0), 336);
        Check.due("a price that was determined before", x.price(1), 8);
        Check.due("a price to be determined again", x.price(2), 8);
        Check.due("backlog keeps the price", x.backlog(0), 8);
        x.advance(1);
        Check.due("determined before request 1 is done in the same tick", x.price(2), 21);
        Check.due("it is done", x.state(2), DONE);
        Check.due("30 - 21 + 21 - 2", x.tokens(1), 28);
    }

    private static void promise29Reason() {
        AdmissionControl x = new AdmissionControl();
        x.set(3, 4);
        x.set(2, 1);
        x.setClass(0, 3, 7);
        x.offer(0, 0, 60);
        Check.due("reason", x.reason(0), 1);
        x.setClass(0, 3, 40);
        x.set(1, 1);
        x.advance(2);
        Check.due("the latest reason", x.reason(0), 3);
        Check.due("offers", x.offers(0), 2);
        Check.due("when", x.when(0), 1 + 2);
        x.set(1, 20);
        x.advance(2);
        Check.due("the latest reason stays after the admission", x.reason(0), 3);
        Check.due("state", x.state(0), RUNNING);
        Check.due("offers", x.offers(0), 3);
    }

    private static void noSuchRequest() {
        AdmissionControl x = new AdmissionControl();
        x.offer(0, 0, 1);
        x.offer(0, 0, 1);
        x.undo();
        for (int far : new int[] {1, 2, 31, 32, -1, Integer.MIN_VALUE, Integer.MAX_VALUE}) {
            Check.due("state", x.state(far), NO_SUCH);
            Check.due("price", x.price(far), NO_SUCH);
            Check.due("done", x.done(far), NO_SUCH);
            Check.due("offers", x.offers(far), NO_SUCH);
            Check.due("reason", x.reason(far), NO_SUCH);
            Check.due("when", x.when(far), NO_SUCH);
            Check.due("finish", x.finish(far), NO_SUCH);
        }
    }
}
