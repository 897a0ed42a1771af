/** Promises 6 to 10: append, clearText, fault, run, undo. */
public final class TextAndHistoryTest {
    private static final int BAD_VALUE = -100002, BAD_TEXT = -100003, TOO_MANY = -100004, NONE = -100005;

    public static void main(String[] args) {
        promise6Append();
        promise7ClearText();
        promise8TextsWithoutFault();
        promise8Faults();
        promise8LongTexts();
        promise9Run();
        promise9EndsAtAnError();
        promise9BadText();
        promise9RecordsOnce();
        promise10Undo();
        promise10RestoresEverything();
        promise10FifthState();
        Check.end("TextAndHistoryTest");
    }

    private static void write(AdmissionControl x, String text) {
        for (int i = 0; i < text.length(); i++) {
            x.append(text.charAt(i));
        }
    }

    private static void promise6Append() {
        AdmissionControl x = new AdmissionControl();
        Check.due("append(31)", x.append(31), BAD_VALUE);
        Check.due("append(127)", x.append(127), BAD_VALUE);
        Check.due("append(-1)", x.append(-1), BAD_VALUE);
        Check.due("append(2^31 - 1)", x.append(Integer.MAX_VALUE), BAD_VALUE);
        Check.due("append(48 + 65536)", x.append(48 + 65536), BAD_VALUE);
        Check.due("append(32)", x.append(32), 1);
        Check.due("append(126)", x.append(126), 2);
        for (int length = 3; length <= 80; length++) {
            Check.due("append", x.append('0'), length);
        }
        Check.due("append to 80 characters", x.append('0'), TOO_MANY);
        Check.due("bad value before too many", x.append(31), BAD_VALUE);
        Check.due("length", x.clearText(), 80);
        Check.due("append to the empty text", x.append('+'), 1);
    }

    private static void promise7ClearText() {
        AdmissionControl x = new AdmissionControl();
        Check.due("clearText of the empty text", x.clearText(), 0);
        write(x, "0a5");
        Check.due("no fault", x.fault(), NONE);
        Check.due("clearText", x.clearText(), 3);
        Check.due("fault", x.fault(), 0);
        Check.due("clearText again", x.clearText(), 0);
        Check.due("the text is no action", x.undo(), NONE);
    }

    private static int faultOf(String text) {
        AdmissionControl x = new AdmissionControl();
        write(x, text);
        int fault = x.fault();
        Check.due("fault asked again", x.fault(), fault);
        Check.due("length of the text after fault", x.clearText(), text.length());
        return fault;
    }

    private static void promise8TextsWithoutFault() {
        for (int kind = 0; kind <= 2; kind++) {
            for (char shape = 'a'; shape <= 'e'; shape++) {
                for (int cost = 0; cost <= 70; cost++) {
                    String text = "" + kind + shape + cost;
                    int want = cost == 0 ? 2 : cost <= 60 ? NONE : 3;
                    Check.due("fault of " + text, faultOf(text), want);
                }
            }
        }
        for (int ticks = 0; ticks <= 110; ticks++) {
            Check.due("fault of +" + ticks, faultOf("+" + ticks), ticks == 0 ? 1 : ticks <= 99 ? NONE : 3);
        }
        for (String text : new String[] {"0a1;+1", "+1;+1", "2e60;2e60", "1c7;+99;0a6;+5;0b10"}) {
            Check.due("fault of " + text, faultOf(text), NONE);
        }
    }

    private static void promise8Faults() {
        Object[][] faults = {
            {"", 0}, {"0", 1}, {"0a", 2}, {"+", 1}, {"0a5;", 4}, {"+9;", 3}, {"+9;1", 4}, {"+9;1b", 5}, {"+9;+", 4},
            {"3", 0}, {"9a1", 0}, {"/a1", 0}, {"a", 0}, {";", 0}, {" ", 0}, {"-1", 0}, {" 0a5", 0}, {"x0a5", 0},
            {"0f", 1}, {"0`", 1}, {"0A", 1}, {"00", 1}, {"0;", 1}, {"0+", 1}, {"0 a1", 1},
            {"0a0", 2}, {"0a01", 2}, {"0aa", 2}, {"0a;", 2}, {"0a:", 2}, {"0a/", 2}, {"0a+", 2},
            {"0a61", 3}, {"0a69", 3}, {"0a70", 3}, {"0a90", 3}, {"0a5a", 3}, {"0a5 ", 3}, {"0a5+1", 3}, {"0a6/", 3},
            {"0a1:", 3}, {"0a1/", 3}, {"0a601", 4}, {"0a100", 4}, {"0a60 ", 4}, {"0a59/", 4}, {"0a5,+1", 3},
            {"+0", 1}, {"+01", 1}, {"+a", 1}, {"+;", 1}, {"+:", 1}, {"+/", 1}, {"++1", 1}, {"+1a", 2}, {"+1:", 2},
            {"+1/", 2}, {"+100", 3}, {"+99 ", 3}, {"+1+1", 2}, {"0a5;;", 4}, {"0a5;3", 4}, {"0a5; ", 4},
            {"+5;0a1x9", 6}, {"+5;0a61;x", 6}, {"+5;z", 3}, {"0a5;+0;x", 5}, {"0a5~", 3}};
        for (Object[] fault : faults) {
            Check.due("fault of '" + fault[0] + "'", faultOf((String) fault[0]), (Integer) fault[1]);
        }
    }

    private static void promise8LongTexts() {
        String most = "+1;".repeat(26);
        Check.due("fault of 80 characters", faultOf(most + "+1"), NONE);
        Check.due("fault of 80 characters that are not complete", faultOf(most + "0a"), 80);
        Check.due("fault of 79 characters that are not complete", faultOf(most + "0"), 79);
        Check.due("fault at the last character", faultOf(most + "0f"), 79);
        Check.due("fault of 78 characters", faultOf(most), 78);
    }

    private static void promise9Run() {
        AdmissionControl x = new AdmissionControl();
        write(x, "0a8;1b2;2e60;+12");
        Check.due("run", x.run(), 4);
        Check.due("requests", x.requests(), 3);
        Check.due("clock", x.clock(), 12);
        Check.due("work for class 0", x.worked(0), 8);
        Check.due("work for class 1", x.worked(1), 2);
        Check.due("work for class 2", x.worked(2), 38);
        Check.due("estimate of shape 0", x.estimate(0), 128);
        Check.due("estimate of shape 1", x.estimate(1), 128 - 96 / 4);
        Check.due("the text does not change", x.fault(), NONE);
        Check.due("run again", x.run(), 4);
        Check.due("length of the text", x.clearText(), 16);
        Check.due("requests", x.requests(), 6);

        AdmissionControl y = new AdmissionControl();
        y.setClass(0, 3, 1);
        y.set(3, 0);
        write(y, "0a1;0a10;1a4;+10");
        Check.due("a refused request does not end it", y.run(), 4);
        Check.due("states", y.state(0) * 100 + y.state(1) * 10 + y.state(2), 442);
    }

    private static void promise9EndsAtAnError() {
        AdmissionControl x = new AdmissionControl();
        write(x, "+99;+99;+99;+99;+99;+99;+99;+99;+99;+99;0a1;+10;1a1;+1");
        Check.due("run up to the clock's bound", x.run(), 11);
        Check.due("clock", x.clock(), 990);
        Check.due("requests", x.requests(), 1);
        Check.due("run whose first step is an error", x.run(), 0);
        Check.due("that is an action, too", x.undo(), 1);
        Check.due("clock", x.clock(), 990);
        x.undo();
        Check.due("clock", x.clock(), 0);

        AdmissionControl y = new AdmissionControl();
        for (int i = 0; i < 31; i++) {
            y.offer(i % 3, 0, 1);
        }
        write(y, "+9;2c1;+1;2c1;+1");
        Check.due("run up to 32 requests", y.run(), 3);
        Check.due("requests", y.requests(), 32);
        Check.due("clock", y.clock(), 10);
    }

    private static void promise9BadText() {
        AdmissionControl x = new AdmissionControl();
        Check.due("run of the empty text", x.run(), BAD_TEXT);
        write(x, "0a1;+5;");
        Check.due("run of a text that is not complete", x.run(), BAD_TEXT);
        write(x, "0a61");
        Check.due("run of a text with a fault", x.run(), BAD_TEXT);
        Check.due("requests", x.requests(), 0);
        Check.due("clock", x.clock(), 0);
        Check.due("undo", x.undo(), NONE);
        Check.due("length of the text", x.clearText(), 11);
    }

    private static void promise9RecordsOnce() {
        AdmissionControl x = new AdmissionControl();
        x.set(0, 7);
        write(x, "0a8;+1;0a8;+1;0a8;+1");
        Check.due("run", x.run(), 6);
        Check.due("undo", x.undo(), 1);
        Check.due("requests", x.requests(), 0);
        Check.due("clock", x.clock(), 0);
        Check.due("setting", x.setting(0), 7);
        Check.due("undo", x.undo(), 0);
        Check.due("setting", x.setting(0), 4);
        Check.due("undo", x.undo(), NONE);
    }

    private static void promise10Undo() {
        AdmissionControl x = new AdmissionControl();
        Check.due("undo of nothing", x.undo(), NONE);
        x.offer(0, 0, 60);
        write(x, "+3");
        x.advance(3);
        x.append(';');
        x.clock();
        x.finish(0);
        x.leastCapacity();
        x.clearText();
        write(x, "0a1");
        Check.due("undo of advance", x.undo(), 1);
        Check.due("the text is not part of the state", x.clearText(), 3);
        Check.due("clock", x.clock(), 0);
        Check.due("state", x.state(0), 0);
        x.setClass(1, 0, 5);
        Check.due("undo of setClass", x.undo(), 1);
        Check.due("classSetting", x.classSetting(1, 0), 1);
        Check.due("undo of offer", x.undo(), 0);
        Check.due("requests", x.requests(), 0);
        Check.due("undo of nothing", x.undo(), NONE);
        x.offer(2, 4, 9);
        Check.due("a number is given again", x.price(0), 8);
        Check.due("offers of the new request", x.offers(0), 1);

        AdmissionControl y = new AdmissionControl();
        y.setClass(0, 3, 7);
        y.offer(0, 0, 20);
        y.setClass(0, 3, 8);
        y.advance(5);
        Check.due("work", y.done(0), 8);
        y.undo();
        y.undo();
        y.undo();
        y.setClass(0, 3, 8);
        Check.due("offer", y.offer(0, 0, 20), 0);
        Check.due("work for the new request", y.done(0), 0);
        Check.due("reason of the new request", y.reason(0), 0);
        Check.due("offers of the new request", y.offers(0), 1);
    }

    /** Undoes each of many actions at once, in states in which much can be lost. */
    private static void promise10RestoresEverything() {
        AdmissionControl x = new AdmissionControl();
        Numbers numbers = new Numbers(99);
        x.set(3, 2);
        write(x, "0a9;+1;1b60;2c3");
        for (int i = 0; i < 300; i++) {
            String before = Picture.withWhatWouldBe(x);
            act(x, numbers, i % 7);
            if (i % 7 != 6) {
                x.undo();
                Check.holds("undo of the action " + i % 7 + " restores everything", before.equals(Picture.withWhatWouldBe(x)));
            }
            act(x, numbers, i % 5);
        }
    }

    private static void act(AdmissionControl x, Numbers numbers, int action) {
        switch (action) {
            case 0:
                x.set(1, numbers.between(1, 60));
                break;
            case 1:
                x.setClass(numbers.below(3), numbers.oneOf(0, 1), numbers.between(1, 9));
                break;
            case 2:
                if (x.offer(numbers.below(3), numbers.below(5), numbers.between(1, 60)) < 0) {
                    x.set(0, 5);
                }
                break;
            case 3:
                x.advance(1);
                break;
            case 4:
                x.advance(2);
                break;
            case 5:
                x.run();
                break;
            default:
                x.undo();
                break;
        }
    }

    private static void promise10FifthState() {
        AdmissionControl x = new AdmissionControl();
        for (int value = 5; value <= 10; value++) {
            x.set(0, value);
        }
        Check.due("undo", x.undo(), 3);
        Check.due("setting", x.setting(0), 9);
        Check.due("undo", x.undo(), 2);
        Check.due("setting", x.setting(0), 8);
        x.set(0, 15);
        Check.due("undo", x.undo(), 2);
        Check.due("setting", x.setting(0), 8);
        Check.due("undo", x.undo(), 1);
        Check.due("undo", x.undo(), 0);
        Check.due("setting", x.setting(0), 6);
        Check.due("the first states are gone", x.undo(), NONE);
        Check.due("setting", x.setting(0), 6);
    }
}
