import java.util.function.Consumer;
import java.util.function.Supplier;

/** The bounds of promise 10, of "Actions and history" and of "Errors". */
public final class EdgesOfHistoryTest implements Names {
    public static void main(String[] args) {
        Check.each(EdgesOfHistoryTest.class);
        Check.end("EdgesOfHistoryTest");
    }

    // ---- how many states

    static void undoOfTheEmptyHistoryChangesNothing() {
        Twins.unchanged("undo of the empty history", AdmissionControl::new, AdmissionControl::undo, NONE);
        Twins.unchanged("undo of the used up history", EdgesOfHistoryTest::usedUp, AdmissionControl::undo, NONE);
    }

    private static AdmissionControl usedUp() {
        AdmissionControl x = Twins.busy();
        for (int left = 3; left >= 0; left--) {
            Check.due("undo", x.undo(), left);
        }
        return x;
    }

    /** CAPACITY becomes 5, 6, 7 and so on. */
    private static AdmissionControl after(int actions) {
        AdmissionControl x = new AdmissionControl();
        for (int i = 0; i < actions; i++) {
            x.set(CAPACITY, 5 + i);
        }
        return x;
    }

    static void theHistoryHolds4StatesAtMost() {
        for (int actions = 0; actions <= 12; actions++) {
            AdmissionControl x = after(actions);
            int states = Math.min(actions, 4);
            for (int left = states - 1; left >= 0; left--) {
                Check.due("undo after " + actions + " actions", x.undo(), left);
                Check.due("CAPACITY", x.setting(CAPACITY), 4 + actions - states + left);
            }
            Check.due("undo of the empty history after " + actions + " actions", x.undo(), NONE);
            Check.due("CAPACITY", x.setting(CAPACITY), 4 + actions - states);
        }
    }

    static void theFourthStateIsNotDropped() {
        AdmissionControl x = after(4);
        x.undo();
        x.undo();
        x.undo();
        Check.due("the fourth undo", x.undo(), 0);
        Check.due("the first CAPACITY", x.setting(CAPACITY), 4);
    }

    static void theFifthStateDropsTheOldest() {
        AdmissionControl x = after(5);
        x.undo();
        x.undo();
        x.undo();
        Check.due("the fourth undo", x.undo(), 0);
        Check.due("the second CAPACITY", x.setting(CAPACITY), 5);
        Check.due("the fifth undo", x.undo(), NONE);
        Check.due("the second CAPACITY", x.setting(CAPACITY), 5);
    }

    static void anUndoMakesRoomForAState() {
        AdmissionControl x = after(5);
        Check.due("undo of 9", x.undo(), 3);
        x.set(CAPACITY, 20);
        Check.due("undo of 20", x.undo(), 3);
        Check.due("CAPACITY", x.setting(CAPACITY), 8);
        Check.due("undo of 8", x.undo(), 2);
        Check.due("undo of 7", x.undo(), 1);
        Check.due("undo of 6", x.undo(), 0);
        Check.due("CAPACITY", x.setting(CAPACITY), 5);
        Check.due("undo of nothing", x.undo(), NONE);
    }

    static void anUndoIsNotUndone() {
        AdmissionControl x = after(2);
        Check.due("undo", x.undo(), 1);
        Check.due("undo", x.undo(), 0);
        Check.due("undo", x.undo(), NONE);
        Check.due("CAPACITY", x.setting(CAPACITY), 4);
    }

    // ---- what records a state

    /** Twice the same on a new object: the first undo must leave one state, the second none. */
    private static void dueRecorded(String what, Supplier<AdmissionControl> make, Consumer<AdmissionControl> action) {
        AdmissionControl x = make.get();
        while (x.undo() != NONE) {
            Check.holds("an undo has an end", x.requests() >= 0);
        }
        action.accept(x);
        String between = Picture.of(x);
        action.accept(x);
        Check.due("undo of the second " + what, x.undo(), 1);
        Check.holds("undo of the second " + what + " restores the state", between.equals(Picture.of(x)));
        Check.due("undo of the first " + what, x.undo(), 0);
        Check.due("undo of nothing", x.undo(), NONE);
    }

    static void setRecordsEvenIfItChangesNothing() {
        dueRecorded("set", AdmissionControl::new, x -> x.set(BACKOFF, 3));
        dueRecorded("set", AdmissionControl::new, x -> x.set(BACKOFF, x.setting(BACKOFF) + 1));
    }

    static void setClassRecordsEvenIfItChangesNothing() {
        dueRecorded("setClass", AdmissionControl::new, x -> x.setClass(2, LIMIT, 40));
        dueRecorded("setClass", AdmissionControl::new, x -> x.setClass(2, LIMIT, x.classSetting(2, LIMIT) + 1));
    }

    static void offerRecordsEvenIfItIsRefused() {
        dueRecorded("offer", AdmissionControl::new, x -> x.offer(0, 0, 5));
        AdmissionControl x = new AdmissionControl();
        x.setClass(0, LIMIT, 7);
        dueRefusedOfferRecorded(x, 1, 1);
        AdmissionControl y = new AdmissionControl();
        y.set(PATIENCE, 5);
        dueRefusedOfferRecorded(y, 3, 1);
        AdmissionControl z = new AdmissionControl();
        z.set(PATIENCE, 60);
        z.offer(0, 0, 60);
        z.offer(0, 0, 60);
        z.offer(0, 0, 60);
        dueRefusedOfferRecorded(z, 4, 3);
        AdmissionControl full = new AdmissionControl();
        full.set(PATIENCE, 60);
        full.setClass(0, RATE, 20);
        full.setClass(0, BURST, 99);
        full.advance(3);
        full.set(CAPACITY, 20);
        for (int i = 0; i < 8; i++) {
            full.offer(0, 0, 60);
        }
        dueRefusedOfferRecorded(full, 2, 3);
    }

    private static void dueRefusedOfferRecorded(AdmissionControl x, int reason, int statesLeft) {
        String before = Picture.withWhatWouldBe(x);
        int requests = x.requests();
        Check.due("refused offer", x.offer(0, 0, 60), reason);
        Check.due("requests", x.requests(), requests + 1);
        Check.due("undo of an offer refused for " + reason, x.undo(), statesLeft);
        Check.holds("the undo restores the state", before.equals(Picture.withWhatWouldBe(x)));
    }

    static void advanceRecords() {
        dueRecorded("advance", AdmissionControl::new, x -> x.advance(1));
        dueRecorded("advance", AdmissionControl::new, x -> x.advance(99));
    }

    static void runRecordsOnceWhateverItsSteps() {
        dueRecorded("run of one step", () -> with("+1"), AdmissionControl::run);
        dueRecorded("run of six steps", () -> with("0a1;+1;1b60;+5;2c3;+9"), AdmissionControl::run);
        AdmissionControl x = with("+1;+1;+1;+1;+1;+1");
        x.set(CAPACITY, 9);
        x.run();
        Check.due("undo of the run", x.undo(), 1);
        Check.due("clock", x.clock(), 0);
        Check.due("undo of set", x.undo(), 0);
        Check.due("CAPACITY", x.setting(CAPACITY), 4);
    }

    /** At 999 the first step is refused: the run takes no step, answers 0, which is no error code, and is recorded. */
    static void runRecordsEvenIfItTakesNoStep() {
        AdmissionControl x = with("+10");
        for (int i = 0; i < 10; i++) {
            x.advance(99);
        }
        Check.due("run at 990", x.run(), 0);
        Check.due("undo of the run", x.undo(), 3);
        Check.due("clock", x.clock(), 990);
        Check.due("undo of the last advance", x.undo(), 2);
        Check.due("clock", x.clock(), 891);
    }

    private static AdmissionControl with(String text) {
        AdmissionControl x = new AdmissionControl();
        Twins.write(x, text);
        return x;
    }

    static void errorsRecordNothing() {
        Twins.unchanged("set", x -> x.set(4, 1), NO_SUCH);
        Twins.unchanged("set", x -> x.set(0, 0), BAD_VALUE);
        Twins.unchanged("setClass", x -> x.setClass(3, 0, 1), NO_SUCH);
        Twins.unchanged("setClass", x -> x.setClass(0, 0, 0), BAD_VALUE);
        Twins.unchanged("offer", x -> x.offer(0, 5, 1), NO_SUCH);
        Twins.unchanged("offer", x -> x.offer(0, 0, 0), BAD_VALUE);
        Twins.unchanged("advance", x -> x.advance(100), BAD_VALUE);
        Twins.unchanged("run", Twins::young, AdmissionControl::run, BAD_TEXT);
    }

    static void theTextCallsRecordNothing() {
        AdmissionControl x = new AdmissionControl();
        x.append('+');
        x.append('1');
        x.fault();
        Check.due("undo after append and fault", x.undo(), NONE);
        x.clearText();
        Check.due("undo after clearText", x.undo(), NONE);
        Twins.write(x, "+1");
        x.set(CAPACITY, 9);
        x.append('2');
        x.fault();
        Check.due("undo of set", x.undo(), 0);
        Check.due("CAPACITY", x.setting(CAPACITY), 4);
        Check.due("the text stays", x.run(), 1);
        Check.due("it is +12", x.clock(), 12);
    }

    /** Every question, on its bounds and beyond them. */
    private static int askAll(AdmissionControl x) {
        for (int i = -1; i <= 33; i++) {
            x.setting(i);
            x.estimate(i);
            x.tokens(i);
            x.pass(i);
            x.queued(i);
            x.backlog(i);
            x.worked(i);
            x.workShare(i);
            x.state(i);
            x.price(i);
            x.done(i);
            x.offers(i);
            x.reason(i);
            x.when(i);
            x.ticksIf(i);
            x.finish(i);
            for (int j = -1; j <= 8; j++) {
                x.classSetting(j, i);
                x.queuedAt(j, i);
                x.refused(j, i);
                x.wouldRefuse(j, i);
            }
        }
        x.clock();
        x.idle();
        x.requests();
        x.ticksLeft();
        return x.leastCapacity() + x.fault();
    }

    static void theQuestionsChangeNothing() {
        for (int repeat = 0; repeat < 2; repeat++) {
            AdmissionControl asked = repeat == 0 ? Twins.young() : Twins.busy();
            AdmissionControl spared = repeat == 0 ? Twins.young() : Twins.busy();
            int sum = askAll(asked);
            Check.due("the same questions again", askAll(asked), sum);
            Twins.alike("an object that was asked", asked, spared);
        }
    }

    // ---- what a state is

    private static void dueRestored(String what, Consumer<AdmissionControl> action) {
        AdmissionControl x = Twins.busy();
        x.undo();
        AdmissionControl y = Twins.busy();
        y.undo();
        String before = Picture.withWhatWouldBe(x);
        action.accept(x);
        Check.holds(what + " changes something", !before.equals(Picture.withWhatWouldBe(x)));
        Check.due("undo of " + what, x.undo(), 3);
        Check.holds("undo of " + what + " restores everything", before.equals(Picture.withWhatWouldBe(x)));
        Twins.alike("an object after " + what + " and undo", x, y);
    }

    static void undoRestoresSettings() {
        for (int setting = 0; setting < 4; setting++) {
            int of = setting;
            dueRestored("set(" + of + ")", x -> x.set(of, x.setting(of) + 2));
            for (int kind = 0; kind < 3; kind++) {
                int in = kind;
                dueRestored("setClass(" + in + ", " + of + ")", x -> x.setClass(in, of, x.classSetting(in, of) + 2));
            }
        }
    }

    static void undoRestoresRequestsQueuesBucketsPassesEstimatesAndCounters() {
        dueRestored("an offer that is admitted", x -> x.offer(1, 4, 60));
        dueRestored("an offer that is refused", x -> x.offer(2, 4, 60));
        dueRestored("advance(1)", x -> x.advance(1));
        dueRestored("advance(99)", x -> x.advance(99));
        dueRestored("run", AdmissionControl::run);
    }

    static void undoDoesNotChangeTheText() {
        AdmissionControl x = with("+1");
        x.run();
        x.append('2');
        Check.due("undo", x.undo(), 0);
        Check.due("fault", x.fault(), NONE);
        Check.due("run of +12", x.run(), 1);
        Check.due("clock", x.clock(), 12);
        x.clearText();
        Check.due("undo", x.undo(), 0);
        Check.due("the text stays empty", x.fault(), 0);
        Check.due("length", x.clearText(), 0);
    }

    private static void dueAnswers(String at, AdmissionControl x, int request, int... want) {
        int[] got = {x.state(request), x.price(request), x.done(request), x.offers(request), x.reason(request),
            x.when(request)};
        for (int i = 0; i < want.length; i++) {
            Check.due(at + ": answer " + i + " about request " + request, got[i], want[i]);
        }
    }

    /** Request 0 makes the price 21 in the tick 2; 21 * 3 / 20 is more than PATIENCE in the tick 3. */
    static void undoRestoresAllAnswersAboutARequest() {
        AdmissionControl x = new AdmissionControl();
        x.set(CAPACITY, 20);
        x.set(RETRIES, 2);
        x.offer(0, 0, 60);
        x.setClass(1, LIMIT, 7);
        x.offer(1, 0, 2);
        x.setClass(1, LIMIT, 40);
        x.set(PATIENCE, 2);
        for (int repeat = 0; repeat < 2; repeat++) {
            dueAnswers("before", x, 0, WAITING, 8, 0, 1, 0, NONE);
            dueAnswers("before", x, 1, DELAYED, 8, 0, 1, 1, 3);
            Check.due("advance", x.advance(4), 1);
            dueAnswers("after", x, 0, DONE, 8, 60, 1, 0, 2);
            dueAnswers("after", x, 1, DELAYED, 21, 0, 2, 3, 3 + 6);
            Check.due("undo", x.undo(), 3);
        }
    }

    /** A run that is undone takes back a request and all that was done for it in one step. */
    static void aNumberThatWasUndoneIsGivenAgain() {
        for (int limit : new int[] {7, 8}) {
            AdmissionControl x = with("0a60;+10");
            x.set(RETRIES, 4);
            x.setClass(0, LIMIT, limit);
            Check.due("run", x.run(), 2);
            Check.due("offers", x.offers(0), limit == 7 ? 3 : 1);
            Check.due("units", x.done(0), limit == 7 ? 0 : 40);
            x.undo();
            Check.due("state", x.state(0), NO_SUCH);
            Check.due("offer", x.offer(1, 1, 9), 0);
            dueAnswers("a new request", x, 0, WAITING, 8, 0, 1, 0, NONE);
            Check.due("done at its own cost", x.advance(3), 1);
            Check.due("units", x.done(0), 9);
        }
    }
}
