/** Promises 11 to 23: the questions about the server and the classes. */
public final class ServerAndClassesTest {
    private static final int NO_SUCH = -100001, BAD_VALUE = -100002, NONE = -100005;
    private static final int[] FAR = {-1, Integer.MIN_VALUE, Integer.MAX_VALUE};

    public static void main(String[] args) {
        promises11And12Settings();
        promise13Clock();
        promise14Estimate();
        promise15Tokens();
        promise16Pass();
        promises17And18Queue();
        promise19Backlog();
        promises20And22And23Work();
        promise21Refused();
        noSuchClass();
        Check.end("ServerAndClassesTest");
    }

    private static void promises11And12Settings() {
        AdmissionControl x = new AdmissionControl();
        for (int i = 0; i < 4; i++) {
            x.set(i, i + 1);
            for (int kind = 0; kind < 3; kind++) {
                x.setClass(kind, i, 1 + i + kind * 3);
            }
        }
        for (int i = 0; i < 4; i++) {
            Check.due("setting", x.setting(i), i + 1);
            for (int kind = 0; kind < 3; kind++) {
                Check.due("classSetting", x.classSetting(kind, i), 1 + i + kind * 3);
            }
        }
        Check.due("setting(4)", x.setting(4), NO_SUCH);
        Check.due("classSetting(0, 4)", x.classSetting(0, 4), NO_SUCH);
        for (int far : FAR) {
            Check.due("setting(far)", x.setting(far), NO_SUCH);
            Check.due("classSetting(0, far)", x.classSetting(0, far), NO_SUCH);
        }
    }

    private static void promise13Clock() {
        AdmissionControl x = new AdmissionControl();
        Check.due("clock", x.clock(), 0);
        x.advance(1);
        x.offer(0, 0, 1);
        x.set(0, 1);
        Check.due("clock", x.clock(), 1);
        x.advance(99);
        Check.due("clock", x.clock(), 100);
        x.advance(100);
        Check.due("clock after an error", x.clock(), 100);
    }

    private static void promise14Estimate() {
        AdmissionControl x = new AdmissionControl();
        x.offer(0, 3, 12);
        Check.due("estimate before the work", x.estimate(3), 128);
        x.advance(2);
        Check.due("estimate during the work", x.estimate(3), 128);
        x.advance(1);
        Check.due("estimate after the work", x.estimate(3), 128 + (192 - 128) / 4);
        Check.due("estimate of another shape", x.estimate(4), 128);
        Check.due("estimate(5)", x.estimate(5), NO_SUCH);
        for (int far : FAR) {
            Check.due("estimate(far)", x.estimate(far), NO_SUCH);
        }
    }

    private static void promise15Tokens() {
        AdmissionControl x = new AdmissionControl();
        x.offer(1, 0, 60);
        x.offer(2, 0, 4);
        x.offer(2, 1, 4);
        Check.due("tokens(0)", x.tokens(0), 30);
        Check.due("tokens(1)", x.tokens(1), 22);
        Check.due("tokens(2)", x.tokens(2), 14);
    }

    private static void promise16Pass() {
        AdmissionControl x = new AdmissionControl();
        x.set(1, 60);
        x.setClass(1, 0, 4);
        x.setClass(2, 0, 9);
        for (int kind = 0; kind < 3; kind++) {
            x.offer(kind, 0, 60);
        }
        x.advance(1);
        Check.due("pass(0)", x.pass(0), 2520);
        Check.due("pass(1)", x.pass(1), 630);
        Check.due("pass(2)", x.pass(2), 560);
        x.advance(1);
        Check.due("pass(0)", x.pass(0), 2520);
        Check.due("pass(1)", x.pass(1), 1260);
        Check.due("pass(2)", x.pass(2), 1400);
    }

    private static void promises17And18Queue() {
        AdmissionControl x = new AdmissionControl();
        Check.due("queued", x.queued(1), 0);
        Check.due("queuedAt of the empty queue", x.queuedAt(1, 0), NONE);
        x.offer(0, 0, 4);
        x.offer(1, 0, 4);
        x.offer(1, 1, 60);
        x.offer(0, 0, 4);
        Check.due("queued(0)", x.queued(0), 2);
        Check.due("queued(1)", x.queued(1), 2);
        Check.due("queued(2)", x.queued(2), 0);
        Check.due("queuedAt(0, 0)", x.queuedAt(0, 0), 0);
        Check.due("queuedAt(0, 1)", x.queuedAt(0, 1), 3);
        Check.due("queuedAt(1, 0)", x.queuedAt(1, 0), 1);
        Check.due("queuedAt(1, 1)", x.queuedAt(1, 1), 2);
        x.advance(2);
        Check.due("the first of the queue leaves it when it is done", x.queuedAt(1, 0), 2);
        Check.due("nothing is left behind", x.queuedAt(1, 1), NONE);
        Check.due("a running request is queued", x.queued(0), 1);
        Check.due("queuedAt(1, 8)", x.queuedAt(1, 8), NONE);
        Check.due("queuedAt(1, 2^31 - 1)", x.queuedAt(1, Integer.MAX_VALUE), NONE);
        Check.due("queuedAt(1, -1)", x.queuedAt(1, -1), BAD_VALUE);
        Check.due("queuedAt(1, -2^31)", x.queuedAt(1, Integer.MIN_VALUE), BAD_VALUE);
        Check.due("queuedAt(3, -1)", x.queuedAt(3, -1), NO_SUCH);
    }

    private static void promise19Backlog() {
        AdmissionControl x = new AdmissionControl();
        Check.due("backlog", x.backlog(0), 0);
        x.offer(0, 0, 60);
        x.offer(0, 1, 60);
        Check.due("backlog of two", x.backlog(0), 16);
        Check.due("backlog of another class", x.backlog(1), 0);
        x.advance(1);
        Check.due("backlog after 4 units", x.backlog(0), 12);
        x.advance(1);
        Check.due("at least 1 for a request that is late", x.backlog(0), 1 + 8);
        x.advance(5);
        Check.due("at least 1 for a request that is later", x.backlog(0), 1 + 8);
        x.advance(8);
        Check.due("the first one is done", x.backlog(0), 8);
    }

    private static void promises20And22And23Work() {
        AdmissionControl x = new AdmissionControl();
        Check.due("workShare before the first unit", x.workShare(0), 0.0f);
        x.advance(1);
        Check.due("idle", x.idle(), 4);
        Check.due("workShare of idle units", x.workShare(0), 0.0f);
        x.offer(0, 0, 1);
        x.offer(1, 0, 2);
        x.advance(2);
        Check.due("worked(0)", x.worked(0), 1);
        Check.due("worked(1)", x.worked(1), 2);
        Check.due("worked(2)", x.worked(2), 0);
        Check.due("idle", x.idle(), 4 + 1 + 4);
        Check.due("workShare(0)", x.workShare(0), 1.0f / 3.0f);
        Check.due("workShare(1)", x.workShare(1), 2.0f / 3.0f);
        Check.due("workShare(2)", x.workShare(2), 0.0f);
        x.offer(2, 0, 4);
        x.advance(1);
        Check.due("workShare(2)", x.workShare(2), 4.0f / 7.0f);
        Check.due("workShare(3)", x.workShare(3), -1.0f);
        for (int far : FAR) {
            Check.due("workShare(far)", x.workShare(far), -1.0f);
        }
    }

    private static void promise21Refused() {
        AdmissionControl x = new AdmissionControl();
        x.set(3, 0);
        x.setClass(1, 3, 7);
        x.offer(1, 0, 1);
        x.offer(1, 0, 1);
        x.setClass(1, 3, 40);
        x.set(1, 1);
        x.offer(1, 0, 1);
        x.offer(2, 0, 1);
        x.wouldRefuse(2, 0);
        Check.due("refused(1, 1)", x.refused(1, 1), 2);
        Check.due("refused(1, 3)", x.refused(1, 3), 1);
        Check.due("refused(2, 3)", x.refused(2, 3), 1);
        Check.due("refused(0, 3)", x.refused(0, 3), 0);
        Check.due("refused(1, 2)", x.refused(1, 2), 0);
        Check.due("refused(1, 4)", x.refused(1, 4), 0);
        Check.due("refused(1, 5)", x.refused(1, 5), 0);
        Check.due("refused(1, 0)", x.refused(1, 0), NO_SUCH);
        Check.due("refused(1, 6)", x.refused(1, 6), NO_SUCH);
        for (int far : FAR) {
            Check.due("refused(1, far)", x.refused(1, far), NO_SUCH);
        }
    }

    private static void noSuchClass() {
        AdmissionControl x = new AdmissionControl();
        for (int far : new int[] {3, -1, Integer.MIN_VALUE, Integer.MAX_VALUE}) {
            Check.due("classSetting", x.classSetting(far, 0), NO_SUCH);
            Check.due("tokens", x.tokens(far), NO_SUCH);
            Check.due("pass", x.pass(far), NO_SUCH);
            Check.due("queued", x.queued(far), NO_SUCH);
            Check.due("queuedAt", x.queuedAt(far, 0), NO_SUCH);
            Check.due("backlog", x.backlog(far), NO_SUCH);
            Check.due("worked", x.worked(far), NO_SUCH);
            Check.due("refused", x.refused(far, 1), NO_SUCH);
        }
    }
}
