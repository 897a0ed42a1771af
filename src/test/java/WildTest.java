/** Wrong and extreme arguments in many states: nothing is thrown, and errors and questions change nothing. */
public final class WildTest {
    private static final int NONE = -100005;
    private static final int[] WILD = {
        Integer.MIN_VALUE, Integer.MIN_VALUE + 1, -100001, -1, 0, 1, 2, 3, 4, 5, 6, 7, 8, 9, 20, 21, 31, 32, 33, 43, 48,
        59, 60, 61, 80, 97, 99, 100, 126, 127, 999, 1000, 65536, Integer.MAX_VALUE - 1, Integer.MAX_VALUE};
    private static final int CALLS = 34;

    private final Numbers numbers;
    private AdmissionControl x = new AdmissionControl();

    private WildTest(int run) {
        numbers = new Numbers(run + 1000);
    }

    public static void main(String[] args) {
        for (int run = 0; run < 300; run++) {
            new WildTest(run).play();
        }
        Check.end("WildTest");
    }

    private void play() {
        for (int i = 0; i < 512; i++) {
            int call = numbers.below(CALLS);
            String before = Picture.of(x);
            float answer = 0;
            try {
                answer = numbers.below(3) == 0 ? wildCall(call) : tameCall(call);
            } catch (RuntimeException thrown) {
                Check.holds("call " + call + " throws nothing, not " + thrown, false);
            }
            boolean isError = answer <= -100001 && answer >= -100004;
            if (call >= 9 || isError || (call == 8 && answer == NONE)) {
                Check.holds("call " + call + " changes nothing", before.equals(Picture.of(x)));
            }
        }
    }

    private int any() {
        return WILD[numbers.below(WILD.length)];
    }

    private float wildCall(int call) {
        return call(call, any(), any(), any());
    }

    private float tameCall(int call) {
        switch (call) {
            case 0:
                return call(call, numbers.below(4), numbers.between(1, 20), 0);
            case 1:
                return call(call, numbers.below(3), numbers.below(4), numbers.between(1, 30));
            case 3:
                return call(call, numbers.between(1, 9), 0, 0);
            case 4:
                return call(call, numbers.oneOf('0', '1', 'a', 'b', '6', ';', '+'), 0, 0);
            default:
                return call(call, numbers.below(3), numbers.below(5), numbers.between(1, 60));
        }
    }

    private float call(int call, int a, int b, int c) {
        switch (call) {
            case 0: return x.set(a, b);
            case 1: return x.setClass(a, b, c);
            case 2: return x.offer(a, b, c);
            case 3: return x.advance(a);
            case 4: return x.append(a);
            case 5: return numbers.below(9) == 0 ? x.clearText() : 0;
            case 6: return x.fault();
            case 7: return x.run();
            case 8: return x.undo();
            case 9: return x.setting(a);
            case 10: return x.classSetting(a, b);
            case 11: return x.clock();
            case 12: return x.estimate(a);
            case 13: return x.tokens(a);
            case 14: return x.pass(a);
            case 15: return x.queued(a);
            case 16: return x.queuedAt(a, b);
            case 17: return x.backlog(a);
            case 18: return x.worked(a);
            case 19: return x.refused(a, b);
            case 20: return x.idle();
            case 21: return x.workShare(a);
            case 22: return x.requests();
            case 23: return x.state(a);
            case 24: return x.price(a);
            case 25: return x.done(a);
            case 26: return x.offers(a);
            case 27: return x.reason(a);
            case 28: return x.when(a);
            case 29: return x.wouldRefuse(a, b);
            case 30: return x.ticksLeft();
            case 31: return x.ticksIf(a);
            case 32: return x.leastCapacity();
            default: return x.finish(a);
        }
    }
}
