/** The bounds of promises 6 to 9 and of "Text". */
public final class EdgesOfTextTest implements Names {
    private static final String DIGITS = "0123456789";

    public static void main(String[] args) {
        Check.each(EdgesOfTextTest.class);
        Check.end("EdgesOfTextTest");
    }

    private static AdmissionControl with(String text) {
        AdmissionControl x = new AdmissionControl();
        Twins.write(x, text);
        return x;
    }

    /** 78 characters: 26 steps with their semicolons. */
    private static String most() {
        return "+1;".repeat(26);
    }

    // ---- append, clearText

    static void appendTakesTheCharacters32To126() {
        for (int no : new int[] {31, 127, 0, -1, 128, 48 + 256, 48 + 65536, Integer.MIN_VALUE, Integer.MAX_VALUE}) {
            Twins.unchanged("append(" + no + ")", x -> x.append(no), BAD_VALUE);
        }
        AdmissionControl x = new AdmissionControl();
        for (int character = 32; character <= 111; character++) {
            Check.due("append(" + character + ")", x.append(character), character - 31);
        }
        x.clearText();
        for (int character = 112; character <= 126; character++) {
            Check.due("append(" + character + ")", x.append(character), character - 111);
        }
    }

    static void theTextHas80CharactersAtMost() {
        AdmissionControl x = with(most());
        Check.due("the character 79", x.append('+'), 79);
        Check.due("the character 80", x.append('1'), 80);
        Check.due("the character 81", x.append(';'), TOO_MANY);
        Check.due("fault", x.fault(), NONE);
        Check.due("run", x.run(), 27);
        Twins.unchanged("append to 80", () -> with(most() + "+1"), y -> y.append('1'), TOO_MANY);
        Check.due("length", x.clearText(), 80);
        Check.due("append after clearText", x.append('+'), 1);
    }

    static void appendLooksAtTheCharacterBeforeTheRoom() {
        Twins.unchanged("append(31) to 80", () -> with(most() + "+1"), x -> x.append(31), BAD_VALUE);
        Twins.unchanged("append(127) to 80", () -> with(most() + "+1"), x -> x.append(127), BAD_VALUE);
    }

    static void clearTextAnswersTheLengthThatTheTextHad() {
        AdmissionControl x = new AdmissionControl();
        Check.due("of the empty text", x.clearText(), 0);
        x.append(' ');
        Check.due("of one character", x.clearText(), 1);
        Check.due("of the emptied text", x.clearText(), 0);
        Check.due("fault of the emptied text", x.fault(), 0);
        Twins.write(x, most() + "+");
        Check.due("of 79 characters", x.clearText(), 79);
    }

    // ---- fault

    /** Each character behind the beginning: those that may follow it, and whether a digit makes the text whole. */
    private static void dueAfter(String beginning, String allowed, boolean isNumber) {
        for (int character = 32; character <= 126; character++) {
            String text = beginning + (char) character;
            int want = beginning.length();
            if (allowed.indexOf(character) >= 0) {
                want = isNumber && character != ';' ? NONE : text.length();
            }
            Check.due("fault of '" + text + "'", with(text).fault(), want);
        }
    }

    private static void dueAfterEach(String beginning, String allowed, boolean isNumber) {
        for (String steps : new String[] {"", "2e60;", "+99;", "0a1;+1;"}) {
            dueAfter(steps + beginning, allowed, isNumber);
        }
    }

    static void aStepBeginsWithAClassOrAPlus() {
        dueAfterEach("", "012+", false);
    }

    static void aShapeFollowsTheClass() {
        dueAfterEach("0", "abcde", false);
        dueAfterEach("2", "abcde", false);
    }

    static void aCostBeginsWithoutAZero() {
        dueAfterEach("0a", "123456789", true);
        dueAfterEach("2e", "123456789", true);
    }

    static void aCostIs60AtMost() {
        for (int first = 1; first <= 5; first++) {
            dueAfterEach("0a" + first, DIGITS + ";", true);
        }
        dueAfterEach("0a6", "0;", true);
        for (int first = 7; first <= 9; first++) {
            dueAfterEach("0a" + first, ";", true);
        }
    }

    static void aCostHasTwoDigitsAtMost() {
        for (int cost : new int[] {10, 11, 19, 50, 59, 60}) {
            dueAfterEach("0a" + cost, ";", true);
        }
    }

    static void ticksBeginWithoutAZero() {
        dueAfterEach("+", "123456789", true);
    }

    static void ticksAre99AtMost() {
        for (int first = 1; first <= 9; first++) {
            dueAfterEach("+" + first, DIGITS + ";", true);
        }
        for (int ticks : new int[] {10, 19, 90, 99}) {
            dueAfterEach("+" + ticks, ";", true);
        }
    }

    static void theFaultOfTheEmptyTextIs0() {
        Check.due("fault of the new text", new AdmissionControl().fault(), 0);
        AdmissionControl x = with("+1");
        x.clearText();
        Check.due("fault of the emptied text", x.fault(), 0);
    }

    static void theFaultOfATextThatIsNotCompleteIsItsLength() {
        String[] texts = {"0", "0a", "+", "0a1;", "+1;", "0a1;2", "0a1;2e", "+1;+", "+99;0a60;"};
        for (String text : texts) {
            Check.due("fault of '" + text + "'", with(text).fault(), text.length());
        }
        for (String text : new String[] {"0a1", "0a6", "0a60", "+1", "+99", "0a1;2e60", "+1;+1"}) {
            Check.due("fault of '" + text + "'", with(text).fault(), NONE);
        }
    }

    static void theFirstFaultIsTold() {
        Object[][] rows = {{"x0a1", 0}, {"0x1", 1}, {"0a0;x", 2}, {"0a61;x", 3}, {"0a1x;+0", 3}, {"0a1;+0;3", 5},
            {"0a1;;0a1", 4}, {"0a1;+1;3", 7}, {"0a1 ;+1", 3}, {"+1;+100;+0", 6}};
        for (Object[] row : rows) {
            Check.due("fault of '" + row[0] + "'", with((String) row[0]).fault(), (int) row[1]);
        }
    }

    /** 80 characters are no bound for the fault: a longer text could begin with them. */
    static void theFaultLooksAtTextsHoweverLong() {
        Check.due("80 characters, whole", with(most() + "+1").fault(), NONE);
        Check.due("80 characters, not complete", with(most() + "0a").fault(), 80);
        Check.due("80 characters that end with ';'", with(most().substring(3) + "+10;;").fault(), 79);
        Check.due("80 characters that end with one ';'", with(most().substring(6) + "0a60;+1;").fault(), 80);
        Check.due("79 characters, not complete", with(most() + "+").fault(), 79);
        Check.due("a fault at the last of 80 characters", with(most() + "+0").fault(), 79);
        Check.due("a fault at the first of 80 characters", with("-1;" + most().substring(3) + "+1").fault(), 0);
    }

    // ---- run

    static void runTakesNoStepOfATextWithAFault() {
        Twins.unchanged("run of the empty text", AdmissionControl::new, AdmissionControl::run, BAD_TEXT);
        for (String text : new String[] {"+1;", "0a1;+", "0a1;0a61", "+1;+0", "0a0", "+1;0a1 "}) {
            Twins.unchanged("run of '" + text + "'", () -> with(text), AdmissionControl::run, BAD_TEXT);
        }
        Twins.unchanged("run of a text that is not complete", Twins::young, AdmissionControl::run, BAD_TEXT);
    }

    private static void dueOffered(String step, int kind, int shape, int cost) {
        AdmissionControl x = with(step + ";+60");
        x.set(CAPACITY, 1);
        x.set(PATIENCE, 60);
        Check.due("run of " + step, x.run(), 2);
        Check.due("units of the class in " + step, x.worked(kind), cost);
        Check.due("units of the request in " + step, x.done(0), cost);
        Check.due("when in " + step, x.when(0), cost - 1);
        Check.due("estimate of the shape in " + step, x.estimate(shape), 128 + (16 * cost - 128) / 4);
    }

    static void aStepOfClassShapeAndCostStandsForOffer() {
        dueOffered("0a1", 0, 0, 1);
        dueOffered("0b9", 0, 1, 9);
        dueOffered("1c10", 1, 2, 10);
        dueOffered("1d59", 1, 3, 59);
        dueOffered("2e60", 2, 4, 60);
        dueOffered("2a6", 2, 0, 6);
    }

    static void aStepOfAPlusAndTicksStandsForAdvance() {
        for (int ticks : new int[] {1, 2, 9, 10, 11, 98, 99}) {
            AdmissionControl x = with("+" + ticks);
            Check.due("run of +" + ticks, x.run(), 1);
            Check.due("clock", x.clock(), ticks);
            Check.due("idle", x.idle(), 4 * ticks);
        }
    }

    static void runTakesAllStepsInTheirOrder() {
        AdmissionControl x = with("1b4;+1;0a4;+1;+2");
        Check.due("run", x.run(), 5);
        Check.due("when of the first", x.when(0), 0);
        Check.due("when of the second", x.when(1), 1);
        Check.due("class of the first", x.worked(1), 4);
        Check.due("clock", x.clock(), 4);
    }

    static void runEndsAtAnAdvanceBeyond999() {
        AdmissionControl x = with("+99;+99;+99;+99;+99;+99;+99;+99;+99;+99;+9;0a1;+1;0a1;+1");
        Check.due("ten steps to 990, one to 999, an offer", x.run(), 12);
        Check.due("clock", x.clock(), 999);
        Check.due("requests", x.requests(), 1);
        Check.due("an advance that is refused does nothing", x.state(0), WAITING);
        AdmissionControl y = with("+99;+99;+99;+99;+99;+99;+99;+99;+99;+99;+10;+1");
        Check.due("ten steps to 990", y.run(), 10);
        Check.due("clock", y.clock(), 990);
    }

    static void runEndsAtTheRequest33() {
        AdmissionControl x = with("0a1;+1;0a1;+1;0a1;+1");
        x.setClass(1, LIMIT, 1);
        for (int i = 0; i < 30; i++) {
            x.offer(1, 0, 1);
        }
        Check.due("two offers and their ticks", x.run(), 4);
        Check.due("requests", x.requests(), 32);
        Check.due("clock", x.clock(), 2);
        Check.due("the first step is refused", x.run(), 0);
        Check.due("clock", x.clock(), 2);
    }

    static void aRefusedRequestDoesNotEndARun() {
        AdmissionControl x = with("0a1;0b1;1a1;+1");
        x.setClass(0, LIMIT, 7);
        x.set(RETRIES, 0);
        Check.due("run", x.run(), 4);
        Check.due("state of the first", x.state(0), REJECTED);
        Check.due("state of the second", x.state(1), REJECTED);
        Check.due("state of the third", x.state(2), DONE);
        AdmissionControl y = with("0a60;0a60;0a60;0a60;+1");
        Check.due("run", y.run(), 5);
        Check.due("the last one is refused for its wait", y.reason(3), 3);
    }

    static void runDoesNotChangeTheText() {
        AdmissionControl x = with("0a1;+1");
        Check.due("run", x.run(), 2);
        Check.due("fault", x.fault(), NONE);
        Check.due("run again", x.run(), 2);
        Check.due("requests", x.requests(), 2);
        Check.due("length", x.clearText(), 6);
    }
}
