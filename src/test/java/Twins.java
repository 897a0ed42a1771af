import java.util.List;
import java.util.function.Supplier;
import java.util.function.ToIntFunction;

/** Objects made alike: one gets a call that changes nothing, its twin does not, and they must stay alike. */
final class Twins implements Names {
    /** What a call that changes nothing is tried on, if nothing else is told. */
    private static final List<Supplier<AdmissionControl>> ALL =
        List.of(AdmissionControl::new, Twins::young, Twins::busy);

    private Twins() {
    }

    static void write(AdmissionControl x, String text) {
        for (int i = 0; i < text.length(); i++) {
            x.append(text.charAt(i));
        }
    }

    /** With one state in the history, where one more would be seen, and a text that is not complete. */
    static AdmissionControl young() {
        AdmissionControl x = new AdmissionControl();
        write(x, "0a");
        x.offer(1, 1, 9);
        return x;
    }

    /** With requests in every state, four states in the history, and a text without a fault. */
    static AdmissionControl busy() {
        AdmissionControl x = new AdmissionControl();
        write(x, "1b5;+2");
        x.offer(0, 0, 4);
        x.advance(1);
        x.offer(0, 1, 60);
        x.advance(1);
        x.setClass(2, LIMIT, 7);
        x.set(RETRIES, 0);
        x.offer(2, 2, 9);
        x.set(RETRIES, 1);
        x.offer(2, 3, 9);
        x.offer(1, 4, 9);
        int[] states = {DONE, RUNNING, REJECTED, DELAYED, WAITING};
        for (int request = 0; request < states.length; request++) {
            Check.due("state " + request + " of the busy twin", x.state(request), states[request]);
        }
        return x;
    }

    static void unchanged(String what, ToIntFunction<AdmissionControl> call, int want) {
        for (Supplier<AdmissionControl> make : ALL) {
            unchanged(what, make, call, want);
        }
    }

    /** The call must answer what is due and change neither the state nor the text nor the history. */
    static void unchanged(
            String what, Supplier<AdmissionControl> make, ToIntFunction<AdmissionControl> call, int want) {
        AdmissionControl called = make.get();
        AdmissionControl spared = make.get();
        Check.due(what, call.applyAsInt(called), want);
        alike(what + " changes nothing", called, spared);
    }

    /** Uses both up, as the history and the text can be seen only by taking them apart. */
    static void alike(String what, AdmissionControl one, AdmissionControl other) {
        Check.holds(what, Picture.toTheEnd(one).equals(Picture.toTheEnd(other)));
    }
}
