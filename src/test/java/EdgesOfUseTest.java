/** "An object is used for at most 512 calls after it has been made": the last of them answers as the first. */
public final class EdgesOfUseTest implements Names {
    private static final int CALLS = 512;

    public static void main(String[] args) {
        Check.each(EdgesOfUseTest.class);
        Check.end("EdgesOfUseTest");
    }

    static void all512CallsOfSetAnswerThePreviousValue() {
        AdmissionControl x = new AdmissionControl();
        int previous = 30;
        for (int call = 1; call <= CALLS; call++) {
            int value = 1 + call % 99;
            Check.due("setClass " + call, x.setClass(1, BURST, value), previous);
            previous = value;
        }
    }

    static void theFourthUndoOf512CallsIsTheLastThatFindsAState() {
        AdmissionControl x = new AdmissionControl();
        for (int call = 1; call <= CALLS - 5; call++) {
            x.set(PATIENCE, 1 + call % 60);
        }
        Check.due("undo", x.undo(), 3);
        Check.due("undo", x.undo(), 2);
        Check.due("undo", x.undo(), 1);
        Check.due("undo", x.undo(), 0);
        Check.due("PATIENCE before the last four of 507 calls", x.setting(PATIENCE), 1 + 503 % 60);
    }

    static void eachOf256UndosFindsTheStateBeforeIt() {
        AdmissionControl x = new AdmissionControl();
        for (int call = 1; call <= CALLS / 2; call++) {
            x.offer(0, 0, 1);
            Check.due("undo " + call, x.undo(), 0);
        }
        Check.due("requests", x.requests(), 0);
    }

    static void all512CallsOfAppendAnswerTheLength() {
        AdmissionControl x = new AdmissionControl();
        for (int round = 0; round < 6; round++) {
            for (int length = 1; length <= 80; length++) {
                Check.due("append", x.append(';'), length);
            }
            Check.due("clearText", x.clearText(), 80);
        }
        for (int length = 1; length <= CALLS - 6 * 81; length++) {
            Check.due("append", x.append(' '), length);
        }
    }

    static void all511CallsOfAdvanceLetATickPass() {
        AdmissionControl x = new AdmissionControl();
        for (int call = 1; call < CALLS; call++) {
            Check.due("advance " + call, x.advance(1), 0);
        }
        Check.due("clock", x.clock(), 511);
    }

    static void all480CallsBeyond32RequestsAnswerTooMany() {
        AdmissionControl x = new AdmissionControl();
        for (int request = 0; request < 32; request++) {
            x.offer(request % 3, 0, 1);
        }
        for (int call = 33; call < CALLS; call++) {
            Check.due("offer " + call, x.offer(0, 0, 1), TOO_MANY);
        }
        Check.due("requests", x.requests(), 32);
    }

    /** Each of the first 32 runs offers a request, and then none can. */
    static void runTakesNoStepWhenThereIsNoMoreRoom() {
        AdmissionControl x = new AdmissionControl();
        Twins.write(x, "0a1;+1");
        for (int call = 7; call <= CALLS; call++) {
            Check.due("run " + call, x.run(), call < 7 + 32 ? 2 : 0);
        }
    }

    /** 180 units, two in a tick, of which the last is the last of request 2. */
    static void theDearestQuestionsAnswerTheSameEachTime() {
        AdmissionControl x = new AdmissionControl();
        x.set(CAPACITY, 2);
        for (int kind = 0; kind < 3; kind++) {
            x.offer(kind, kind, 60);
        }
        for (int round = 0; round < 169; round++) {
            Check.due("ticksLeft", x.ticksLeft(), 90);
            Check.due("leastCapacity", x.leastCapacity(), 1);
            Check.due("finish", x.finish(2), 89);
        }
        Check.due("clock", x.clock(), 0);
    }
}
