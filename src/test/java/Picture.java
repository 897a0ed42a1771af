import java.util.ArrayList;
import java.util.List;

/** All that an object answers to questions that change nothing. */
final class Picture {
    private Picture() {
    }

    static String of(AdmissionControl x) {
        List<Object> all = new ArrayList<>();
        for (int i = 0; i < 4; i++) {
            all.add(x.setting(i));
        }
        all.add("clock " + x.clock() + " idle " + x.idle() + " requests " + x.requests() + " fault " + x.fault());
        for (int shape = 0; shape < 5; shape++) {
            all.add(x.estimate(shape));
        }
        for (int kind = 0; kind < 3; kind++) {
            all.add("class " + kind);
            for (int i = 0; i < 4; i++) {
                all.add(x.classSetting(kind, i));
            }
            for (int reason = 1; reason <= 5; reason++) {
                all.add(x.refused(kind, reason));
            }
            for (int place = 0; place < 8; place++) {
                all.add(x.queuedAt(kind, place));
            }
            all.add(List.of(x.tokens(kind), x.pass(kind), x.queued(kind), x.backlog(kind), x.worked(kind),
                x.workShare(kind), x.wouldRefuse(kind, 0), x.wouldRefuse(kind, 4)));
        }
        for (int i = 0; i < x.requests(); i++) {
            all.add(List.of("request", i, x.state(i), x.price(i), x.done(i), x.offers(i), x.reason(i), x.when(i)));
        }
        return all.toString();
    }

    /** With the answers that look ahead, too. */
    static String withWhatWouldBe(AdmissionControl x) {
        List<Object> all = new ArrayList<>();
        all.add(x.ticksLeft());
        all.add(x.leastCapacity());
        for (int capacity = 1; capacity <= 20; capacity++) {
            all.add(x.ticksIf(capacity));
        }
        for (int i = 0; i < x.requests(); i++) {
            all.add(x.finish(i));
        }
        return of(x) + all;
    }

    /** With the states of the history and the text, which are used up by this. */
    static String toTheEnd(AdmissionControl x) {
        StringBuilder all = new StringBuilder(withWhatWouldBe(x));
        for (int undone = 0; undone < 6; undone++) {
            all.append("\nundo ").append(x.undo()).append(of(x));
        }
        all.append("\nrun ").append(x.run()).append(of(x));
        return all.append("\ntext of ").append(x.clearText()).toString();
    }
}
