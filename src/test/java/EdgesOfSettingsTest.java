/** The bounds of the settings and classes: promises 1, 2, 3, 11 and 12, "Classes, settings, clock". */
public final class EdgesOfSettingsTest implements Names {
    private static final int[] NO_SETTINGS = {-1, 4, Integer.MIN_VALUE, Integer.MAX_VALUE};
    private static final int[] NO_CLASSES = {-1, 3, Integer.MIN_VALUE, Integer.MAX_VALUE};

    public static void main(String[] args) {
        Check.each(EdgesOfSettingsTest.class);
        Check.end("EdgesOfSettingsTest");
    }

    static void capacityIs1To20() {
        rangeOfServer(CAPACITY, 1, 20, 4);
    }

    static void patienceIs1To60() {
        rangeOfServer(PATIENCE, 1, 60, 20);
    }

    static void backoffIs1To20() {
        rangeOfServer(BACKOFF, 1, 20, 3);
    }

    static void retriesAre0To4() {
        rangeOfServer(RETRIES, 0, 4, 1);
    }

    static void shareIs1To9() {
        rangeOfClass(SHARE, 1, 9, 1);
    }

    static void rateIs0To20() {
        rangeOfClass(RATE, 0, 20, 2);
    }

    static void burstIs1To99() {
        rangeOfClass(BURST, 1, 99, 30);
    }

    static void limitIs1To99() {
        rangeOfClass(LIMIT, 1, 99, 40);
    }

    private static void rangeOfServer(int setting, int least, int most, int first) {
        String set = "set(" + setting + ", ";
        for (int value : new int[] {least - 1, most + 1, Integer.MIN_VALUE, Integer.MAX_VALUE}) {
            Twins.unchanged(set + value + ")", x -> x.set(setting, value), BAD_VALUE);
        }
        AdmissionControl x = new AdmissionControl();
        Check.due("first value of the setting " + setting, x.setting(setting), first);
        Check.due(set + least + ")", x.set(setting, least), first);
        Check.due("setting " + setting, x.setting(setting), least);
        Check.due(set + most + ")", x.set(setting, most), least);
        Check.due("setting " + setting, x.setting(setting), most);
        Check.due(set + (most + 1) + ")", x.set(setting, most + 1), BAD_VALUE);
        Check.due("setting " + setting + " after an error", x.setting(setting), most);
        Check.due(set + least + ") again", x.set(setting, least), most);
    }

    private static void rangeOfClass(int setting, int least, int most, int first) {
        for (int kind = 0; kind < 3; kind++) {
            rangeOfClass(kind, setting, least, most, first);
        }
    }

    private static void rangeOfClass(int kind, int setting, int least, int most, int first) {
        String set = "setClass(" + kind + ", " + setting + ", ";
        for (int value : new int[] {least - 1, most + 1, Integer.MIN_VALUE, Integer.MAX_VALUE}) {
            Twins.unchanged(set + value + ")", x -> x.setClass(kind, setting, value), BAD_VALUE);
        }
        AdmissionControl x = new AdmissionControl();
        Check.due("first value of the setting " + setting, x.classSetting(kind, setting), first);
        Check.due(set + least + ")", x.setClass(kind, setting, least), first);
        Check.due("setting " + setting, x.classSetting(kind, setting), least);
        Check.due(set + most + ")", x.setClass(kind, setting, most), least);
        Check.due("setting " + setting, x.classSetting(kind, setting), most);
        Check.due(set + (most + 1) + ")", x.setClass(kind, setting, most + 1), BAD_VALUE);
        Check.due("setting " + setting + " after an error", x.classSetting(kind, setting), most);
        Check.due(set + least + ") again", x.setClass(kind, setting, least), most);
        for (int other = 0; other < 3; other++) {
            Check.due("of class " + other, x.classSetting(other, setting), other == kind ? least : first);
        }
    }

    static void theServerHasTheSettings0To3() {
        for (int no : NO_SETTINGS) {
            Twins.unchanged("set(" + no + ", 4)", x -> x.set(no, 4), NO_SUCH);
            Twins.unchanged("setting(" + no + ")", x -> x.setting(no), NO_SUCH);
        }
        AdmissionControl x = new AdmissionControl();
        Check.due("set(0, 4)", x.set(0, 4), 4);
        Check.due("set(3, 4)", x.set(3, 4), 1);
        Check.due("setting(0)", x.setting(0), 4);
        Check.due("setting(3)", x.setting(3), 4);
    }

    static void aClassHasTheSettings0To3() {
        for (int no : NO_SETTINGS) {
            Twins.unchanged("setClass(0, " + no + ", 4)", x -> x.setClass(0, no, 4), NO_SUCH);
            Twins.unchanged("classSetting(0, " + no + ")", x -> x.classSetting(0, no), NO_SUCH);
        }
        AdmissionControl x = new AdmissionControl();
        Check.due("setClass(0, 0, 4)", x.setClass(0, 0, 4), 1);
        Check.due("setClass(0, 3, 4)", x.setClass(0, 3, 4), 40);
        Check.due("classSetting(0, 0)", x.classSetting(0, 0), 4);
        Check.due("classSetting(0, 3)", x.classSetting(0, 3), 4);
    }

    static void thereAreTheClasses0To2() {
        for (int no : NO_CLASSES) {
            Twins.unchanged("setClass(" + no + ", 0, 4)", x -> x.setClass(no, 0, 4), NO_SUCH);
            Twins.unchanged("classSetting(" + no + ", 0)", x -> x.classSetting(no, 0), NO_SUCH);
        }
        AdmissionControl x = new AdmissionControl();
        Check.due("setClass(0, 1, 5)", x.setClass(0, RATE, 5), 2);
        Check.due("setClass(2, 1, 6)", x.setClass(2, RATE, 6), 2);
        Check.due("classSetting(0, 1)", x.classSetting(0, RATE), 5);
        Check.due("classSetting(1, 1)", x.classSetting(1, RATE), 2);
        Check.due("classSetting(2, 1)", x.classSetting(2, RATE), 6);
    }

    static void setLooksForTheSettingBeforeTheValue() {
        Twins.unchanged("set(4, 0)", x -> x.set(4, 0), NO_SUCH);
        Twins.unchanged("set(-1, 61)", x -> x.set(-1, 61), NO_SUCH);
        Twins.unchanged("set(0, 0)", x -> x.set(0, 0), BAD_VALUE);
    }

    static void setClassLooksForTheClassAndTheSettingBeforeTheValue() {
        Twins.unchanged("setClass(3, 0, 0)", x -> x.setClass(3, 0, 0), NO_SUCH);
        Twins.unchanged("setClass(0, 4, 100)", x -> x.setClass(0, 4, 100), NO_SUCH);
        Twins.unchanged("setClass(-1, -1, 1)", x -> x.setClass(-1, -1, 1), NO_SUCH);
        Twins.unchanged("setClass(0, 0, 0)", x -> x.setClass(0, 0, 0), BAD_VALUE);
    }

    static void setToTheSameValueAnswersIt() {
        AdmissionControl x = new AdmissionControl();
        Check.due("set(0, 4)", x.set(CAPACITY, 4), 4);
        Check.due("set(0, 4) again", x.set(CAPACITY, 4), 4);
        Check.due("setClass(1, 2, 30)", x.setClass(1, BURST, 30), 30);
        Check.due("setClass(1, 2, 30) again", x.setClass(1, BURST, 30), 30);
    }

    static void aBucketKeepsItsTokensEvenIfTheyAreMoreThanBurst() {
        for (int kind = 0; kind < 3; kind++) {
            AdmissionControl x = new AdmissionControl();
            for (int burst : new int[] {30, 29, 1, 99}) {
                x.setClass(kind, BURST, burst);
                Check.due("30 tokens, BURST " + burst, x.tokens(kind), 30);
            }
        }
    }

    /** Promise 1. The first settings stand in the tests of their ranges. */
    static void aNewServerIsEmpty() {
        AdmissionControl x = new AdmissionControl();
        for (int kind = 0; kind < 3; kind++) {
            Check.due("tokens", x.tokens(kind), 30);
            Check.due("queued", x.queued(kind), 0);
            Check.due("queuedAt", x.queuedAt(kind, 0), NONE);
            Check.due("pass", x.pass(kind), 0);
            Check.due("backlog", x.backlog(kind), 0);
            Check.due("worked", x.worked(kind), 0);
            for (int reason = 1; reason <= 5; reason++) {
                Check.due("refused", x.refused(kind, reason), 0);
            }
        }
        for (int shape = 0; shape < 5; shape++) {
            Check.due("estimate", x.estimate(shape), 128);
        }
        Check.due("clock", x.clock(), 0);
        Check.due("idle", x.idle(), 0);
        Check.due("requests", x.requests(), 0);
        Check.due("state(0)", x.state(0), NO_SUCH);
        Check.due("fault of the empty text", x.fault(), 0);
        Check.due("undo of the empty history", x.undo(), NONE);
        Check.due("length of the empty text", x.clearText(), 0);
    }

    static void twoServersShareNothing() {
        AdmissionControl x = Twins.busy();
        AdmissionControl y = new AdmissionControl();
        Check.due("requests", y.requests(), 0);
        Check.due("fault", y.fault(), 0);
        Check.due("requests of the busy one", x.requests(), 5);
    }

    static void theConstantsAreTheDocuments() {
        int[] errors = {AdmissionControl.NO_SUCH, AdmissionControl.BAD_VALUE, AdmissionControl.BAD_TEXT,
            AdmissionControl.TOO_MANY, AdmissionControl.NONE};
        for (int i = 0; i < errors.length; i++) {
            Check.due("error code " + i, errors[i], -100001 - i);
        }
        int[][] rows = {
            {AdmissionControl.CAPACITY, AdmissionControl.PATIENCE, AdmissionControl.BACKOFF, AdmissionControl.RETRIES},
            {AdmissionControl.SHARE, AdmissionControl.RATE, AdmissionControl.BURST, AdmissionControl.LIMIT},
            {AdmissionControl.WAITING, AdmissionControl.RUNNING, AdmissionControl.DONE, AdmissionControl.DELAYED,
                AdmissionControl.REJECTED}};
        for (int[] row : rows) {
            for (int i = 0; i < row.length; i++) {
                Check.due("constant " + i, row[i], i);
            }
        }
    }
}
