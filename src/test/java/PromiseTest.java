/** For each promise of the document: ordinary inputs, the edges that it names, and wrong inputs. */
public final class PromiseTest {
    private static final Class<IndexOutOfBoundsException> INDEX = IndexOutOfBoundsException.class;
    private static final Class<IllegalArgumentException> ARGUMENT = IllegalArgumentException.class;
    private static final Class<IllegalStateException> STATE = IllegalStateException.class;
    private static final int[] FAR = {Integer.MIN_VALUE, -1000, 1000, Integer.MAX_VALUE};

    private static final Checks c = new Checks("PromiseTest");

    public static void main(String[] args) {
        aNewObject();
        speakCutsATrack();
        speakIsRefused();
        speakThrows();
        copyCutsATrack();
        copyIsRefused();
        copyThrows();
        playWears();
        playIsRefusedAndThrows();
        shaveTakesOff();
        shaveIsRefusedAndThrows();
        windTellsByHowMuch();
        sharpenTellsByHowMuch();
        renewPutsABlank();
        setChangesTheWear();
        appendFillsTheBuffer();
        clearBufferTellsItsLength();
        firstErrorByPlace();
        runDoesOrders();
        runStopsAtARefusal();
        runThrows();
        keepAndGoBack();
        cutAnewAndBack();
        undoRestores();
        undoRestoresEachMethod();
        refusalsAreSavedAndThrowsAreNot();
        trackOfTellsProperties();
        cylinderOfTellsProperties();
        countTellsNumbers();
        settingTellsTheWear();
        whyNotChangesNothing();
        ifCopiedTellsClearness();
        chainTellsTheClearest();
        chainThrows();
        clearestOfSeveral();
        daughtersByNumber();
        daughtersInARing();
        meanDepthDivides();
        clearShareDivides();
        digestIsAsTheListTells();
        c.end();
    }

    private static void type(WaxCopies x, String text) {
        Situations.type(x, text);
    }

    private static void track(String what, WaxCopies x, int track, int... due) {
        for (int i = 0; i < due.length; i++) {
            c.due(what + ": trackOf(" + track + ", " + i + ")", x.trackOf(track, i), due[i]);
        }
    }

    private static void counts(String what, WaxCopies x, int... due) {
        for (int i = 0; i < due.length; i++) {
            c.due(what + ": count(" + i + ")", x.count(i), due[i]);
        }
    }

    private static void cylinder(String what, WaxCopies x, int cylinder, int... due) {
        for (int i = 0; i < due.length; i++) {
            c.due(what + ": cylinderOf(" + cylinder + ", " + i + ")", x.cylinderOf(cylinder, i), due[i]);
        }
    }

    // promise 1
    private static void aNewObject() {
        WaxCopies x = new WaxCopies();
        c.due("NONE", WaxCopies.NONE, -1);
        counts("new", x, 100, 100, 0, 0, 0, 0, 0, 360, 0, 360, 0, 0, 0);
        c.due("new: setting", x.setting(), 3);
        for (int track = 0; track < 24; track++) {
            track("new", x, track, 0, -1, -1, -1, -1, -1, -1);
        }
        for (int cylinder = 0; cylinder < 6; cylinder++) {
            cylinder("new", x, cylinder, 60, 0, 0, -1, 0);
        }
        c.dueThrow("new: slot 0", STATE, () -> x.goBack(0));
        c.dueThrow("new: slot 1", STATE, () -> x.goBack(1));
        c.dueThrow("new: undo", STATE, () -> x.undo());
        c.due("new: buffer", x.clearBuffer(), 0);
    }

    // promise 2
    private static void speakCutsATrack() {
        WaxCopies x = new WaxCopies();
        c.due("speak(0, 9)", x.speak(0, 9), 0);
        track("speak(0, 9)", x, 0, 9, 85, 0, 0, -1, 85, 0);
        // bluntness (100 - 91) / 4 = 2
        c.due("speak(23, 1)", x.speak(23, 1), 0);
        track("speak(23, 1)", x, 23, 1, 43, 0, 0, -1, 43, 0);
        counts("two spoken", x, 90, 80, 0, 2, 2, 0, 0, 360, 0, 360, 0, 0, 2);
        c.due("wear 10 layers off none", x.cylinderOf(0, 0), 60);
        // the spring at 50 does not flutter yet, at 40 by 2, at 10 by 8, and 10 is enough
        x.speak(4, 1);
        x.speak(5, 1);
        x.speak(6, 1);
        c.due("spring at 50", x.count(1), 50);
        x.speak(7, 1);
        c.due("flutter as of 50", x.trackOf(7, 2), 0);
        x.speak(8, 1);
        c.due("flutter as of 40", x.trackOf(8, 2), 2);
        x.speak(9, 1);
        x.speak(10, 1);
        c.due("spring at 10", x.count(1), 10);
        c.due("speak at 10", x.speak(11, 1), 0);
        c.due("flutter as of 10", x.trackOf(11, 2), 8);
        c.due("spring at 0", x.count(1), 0);
        c.due("flutter of the machine at 0", x.count(2), 10);
    }

    private static void speakIsRefused() {
        WaxCopies x = new WaxCopies();
        x.renew(0, 4);
        c.due("no layers", x.speak(0, 5), 2);
        c.due("just the layers", x.speak(0, 4), 0);
        c.due("cut goes ahead of layers", x.speak(0, 5), 1);
        for (int i = 0; i < 9; i++) {
            x.speak(4 + i, 1);
        }
        c.due("spring is 0", x.count(1), 0);
        c.due("layers go ahead of the spring", x.speak(1, 5), 2);
        c.due("spring below 10", x.speak(1, 4), 3);
        c.due("cut goes ahead of the spring", x.speak(0, 1), 1);
        c.due("refused so far", x.count(11), 5);
        c.due("spoken so far", x.count(4), 10);
        track("refused", x, 1, 0, -1, -1, -1, -1, -1, -1);
        WaxCopies y = new WaxCopies();
        for (int i = 0; i < 9; i++) {
            y.speak(i, 1);
        }
        y.play(0);
        c.due("spring at 5", y.count(1), 5);
        c.due("spring at 5 is below 10", y.speak(20, 1), 3);
    }

    private static void speakThrows() {
        WaxCopies x = new WaxCopies();
        c.dueThrow("speak(-1, 1)", INDEX, () -> x.speak(-1, 1));
        c.dueThrow("speak(24, 1)", INDEX, () -> x.speak(24, 1));
        c.dueThrow("speak(24, 0)", INDEX, () -> x.speak(24, 0));
        c.dueThrow("speak(0, 0)", ARGUMENT, () -> x.speak(0, 0));
        c.dueThrow("speak(0, 10)", ARGUMENT, () -> x.speak(0, 10));
        for (int far : FAR) {
            c.dueThrow("speak far track", INDEX, () -> x.speak(far, 1));
            c.dueThrow("speak far loudness", ARGUMENT, () -> x.speak(0, far));
        }
        counts("throws change nothing", x, 100, 100, 0, 0, 0, 0, 0, 360, 0, 360, 0, 0, 0);
    }

    // promise 3
    private static void copyCutsATrack() {
        WaxCopies x = new WaxCopies();
        x.speak(0, 5);
        track("mother", x, 0, 5, 65, 0, 0, -1, 65, 0);
        // sharpness 95: bluntness 1; levers take 12, 6, 4 off; depths 5 / 2, 5, 15 / 2
        c.due("copy(0, 4, 1)", x.copy(0, 4, 1), 0);
        track("copy(0, 4, 1)", x, 4, 2, 52, 0, 1, 0, 52, 0);
        c.due("spring", x.count(1), 70);
        c.due("sharpness", x.count(0), 93);
        c.due("copy(0, 8, 2)", x.copy(0, 8, 2), 0);
        track("copy(0, 8, 2)", x, 8, 5, 58, 0, 1, 0, 58, 0);
        c.due("copy(4, 12, 3)", x.copy(4, 12, 3), 0);
        // sharpness 88: bluntness 3; spring 50: no flutter
        track("copy(4, 12, 3)", x, 12, 3, 45, 0, 2, 4, 45, 0);
        // sharpness 85: bluntness 3; spring 30: flutter 4, which goes off the clearness too
        c.due("copy(12, 16, 3)", x.copy(12, 16, 3), 0);
        track("copy(12, 16, 3)", x, 16, 4, 34, 4, 3, 12, 34, 0);
        c.due("copied so far", x.count(5), 4);
        c.due("spoken so far", x.count(4), 1);
        c.due("spring at 10", x.count(1), 10);
        x.wind();
        for (int i = 0; i < 7; i++) {
            x.play(0);
        }
        x.speak(1, 1);
        c.due("spring", x.count(1), 55);
        x.speak(2, 1);
        x.speak(3, 1);
        x.speak(9, 1);
        // spring 25: flutter 5, with the mother's 4; sharpness 77: bluntness 5; lever 12
        c.due("copy(16, 20, 1)", x.copy(16, 20, 1), 0);
        track("copy(16, 20, 1)", x, 20, 2, 12, 9, 4, 16, 12, 0);
        depthsFromOneToNine();
        flutterAtMost20();
        clearnessAtLeast0();
    }

    private static void depthsFromOneToNine() {
        WaxCopies x = new WaxCopies();
        x.speak(0, 1);
        x.speak(1, 9);
        c.due("copy(0, 4, 1)", x.copy(0, 4, 1), 0);
        c.due("depth at least 1", x.trackOf(4, 0), 1);
        x.wind();
        c.due("copy(1, 5, 3)", x.copy(1, 5, 3), 0);
        c.due("depth at most 9", x.trackOf(5, 0), 9);
        c.due("copy(1, 6, 1)", x.copy(1, 6, 1), 0);
        c.due("depth rounded down", x.trackOf(6, 0), 4);
        c.due("copy(0, 8, 3)", x.copy(0, 8, 3), 0);
        c.due("depth 3 / 2", x.trackOf(8, 0), 1);
    }

    private static void flutterAtMost20() {
        WaxCopies x = new WaxCopies();
        x.speak(0, 9);
        int at = 0;
        int[] due = {6, 12, 18, 20, 20};
        for (int i = 0; i < due.length; i++) {
            x.sharpen();
            x.wind();
            for (int k = 0; k < 8; k++) {
                x.speak(20, 1);
                x.renew(5, 60);
            }
            c.due("spring at 20", x.count(1), 20);
            int onto = at == 4 ? 8 : 4;
            x.renew(onto / 4, 60);
            c.due("copy at 20", x.copy(at, onto, 3), 0);
            c.due("flutter together, copy " + i, x.trackOf(onto, 2), due[i]);
            at = onto;
        }
    }

    private static void clearnessAtLeast0() {
        WaxCopies x = new WaxCopies();
        x.set(20);
        x.speak(0, 1);
        x.play(0);
        x.play(0);
        c.due("clearness 5", x.trackOf(0, 1), 5);
        c.due("copy of the dull", x.copy(0, 4, 3), 0);
        c.due("clearness 1", x.trackOf(4, 1), 1);
        c.due("copy of the duller", x.copy(4, 8, 3), 0);
        c.due("clearness 0, not below", x.trackOf(8, 1), 0);
        c.due("it is cut all the same", x.trackOf(8, 0), 1);
    }

    private static void copyIsRefused() {
        WaxCopies x = new WaxCopies();
        c.due("mother smooth", x.copy(0, 4, 1), 1);
        c.due("mother smooth, itself", x.copy(0, 0, 1), 1);
        x.speak(0, 9);
        x.speak(4, 1);
        c.due("other one cut", x.copy(0, 4, 1), 2);
        c.due("onto itself", x.copy(0, 0, 1), 2);
        c.due("smooth goes ahead of cut", x.copy(1, 0, 1), 1);
        c.due("same cylinder", x.copy(0, 3, 1), 3);
        x.renew(2, 3);
        c.due("depth 4 of 3 layers", x.copy(0, 8, 1), 4);
        x.renew(2, 4);
        c.due("depth 4 of 4 layers", x.copy(0, 8, 1), 0);
        x.renew(3, 0);
        c.due("a depth is at least 1", x.copy(4, 12, 1), 4);
        x.wind();
        for (int i = 0; i < 17; i++) {
            x.play(0);
        }
        c.due("spring at 15", x.count(1), 15);
        c.due("spring below 20", x.copy(0, 16, 1), 5);
        c.due("layers go ahead of the spring", x.copy(0, 12, 1), 4);
        c.due("cylinder goes ahead of layers and spring", x.copy(8, 9, 1), 3);
        c.due("cut goes ahead of cylinder", x.copy(8, 8, 1), 2);
        c.due("refused so far", x.count(11), 12);
        c.due("copied so far", x.count(5), 1);
        c.due("spring", x.count(1), 15);
        x.renew(0, 2);
        x.renew(1, 100);
        x.wind();
        x.speak(4, 9);
        c.due("same cylinder goes ahead of layers", x.copy(4, 5, 3), 3);
        c.due("depth 4 of 2 layers", x.copy(4, 0, 1), 4);
    }

    private static void copyThrows() {
        WaxCopies x = new WaxCopies();
        c.dueThrow("copy(-1, 0, 1)", INDEX, () -> x.copy(-1, 0, 1));
        c.dueThrow("copy(24, 0, 1)", INDEX, () -> x.copy(24, 0, 1));
        c.dueThrow("copy(0, -1, 1)", INDEX, () -> x.copy(0, -1, 1));
        c.dueThrow("copy(0, 24, 1)", INDEX, () -> x.copy(0, 24, 1));
        c.dueThrow("copy(0, 24, 0)", INDEX, () -> x.copy(0, 24, 0));
        c.dueThrow("copy(24, 0, 4)", INDEX, () -> x.copy(24, 0, 4));
        c.dueThrow("copy(0, 4, 0)", ARGUMENT, () -> x.copy(0, 4, 0));
        c.dueThrow("copy(0, 4, 4)", ARGUMENT, () -> x.copy(0, 4, 4));
        for (int far : FAR) {
            c.dueThrow("copy far mother", INDEX, () -> x.copy(far, 0, 1));
            c.dueThrow("copy far track", INDEX, () -> x.copy(0, far, 1));
            c.dueThrow("copy far lever", ARGUMENT, () -> x.copy(0, 4, far));
        }
        counts("throws change nothing", x, 100, 100, 0, 0, 0, 0, 0, 360, 0, 360, 0, 0, 0);
    }

    // promise 4
    private static void playWears() {
        WaxCopies x = new WaxCopies();
        x.speak(0, 2);
        c.due("play(0)", x.play(0), 57);
        c.due("play(0) again", x.play(0), 54);
        track("played twice", x, 0, 2, 44, 0, 0, -1, 50, 2);
        c.due("spring", x.count(1), 80);
        c.due("plays so far", x.count(6), 2);
        c.due("sharpness stays", x.count(0), 98);
        x.set(0);
        c.due("play without wear", x.play(0), 54);
        x.set(20);
        x.play(0);
        x.play(0);
        c.due("clearness 4", x.trackOf(0, 1), 4);
        c.due("clearness at least 0", x.play(0), 10);
        c.due("clearness is 0", x.trackOf(0, 1), 0);
        c.due("as it was cut", x.trackOf(0, 5), 50);
        c.due("plays", x.trackOf(0, 6), 6);
        x.shave(0);
        x.speak(0, 1);
        c.due("plays since it was cut", x.trackOf(0, 6), 0);
        c.due("plays so far", x.count(6), 6);
    }

    private static void playIsRefusedAndThrows() {
        WaxCopies x = new WaxCopies();
        c.due("smooth", x.play(0), 1);
        x.speak(0, 9);
        x.set(0);
        for (int i = 0; i < 17; i++) {
            x.play(0);
        }
        c.due("spring at 5", x.count(1), 5);
        c.due("play at 5", x.play(0), 95);
        c.due("spring below 5", x.play(0), 2);
        c.due("smooth goes ahead of the spring", x.play(1), 1);
        c.due("plays", x.trackOf(0, 6), 18);
        c.due("refused so far", x.count(11), 3);
        c.due("plays so far", x.count(6), 18);
        int states = x.count(12);
        c.dueThrow("play(-1)", INDEX, () -> x.play(-1));
        c.dueThrow("play(24)", INDEX, () -> x.play(24));
        for (int far : FAR) {
            c.dueThrow("play far", INDEX, () -> x.play(far));
        }
        c.due("refused so far", x.count(11), 3);
        c.due("saved states", x.count(12), states);
    }

    // promise 5
    private static void shaveTakesOff() {
        WaxCopies x = new WaxCopies();
        x.speak(4, 3);
        x.speak(5, 7);
        x.speak(7, 5);
        x.speak(8, 2);
        x.copy(5, 0, 1);
        c.due("shave(1)", x.shave(1), 7);
        cylinder("shaved", x, 1, 53, 0, 0, -1, 1);
        cylinder("not shaved", x, 2, 60, 1, 2, 8, 0);
        track("shaved", x, 5, 0, -1, -1, -1, -1, -1, -1);
        c.due("copy keeps its mother's number", x.trackOf(0, 4), 5);
        c.due("copy keeps its generation", x.trackOf(0, 3), 1);
        c.due("layers shaved off", x.count(8), 7);
        c.due("layers", x.count(7), 353);
        x.speak(4, 2);
        c.due("shave(1) again", x.shave(1), 2);
        cylinder("shaved twice", x, 1, 51, 0, 0, -1, 2);
        c.due("layers shaved off", x.count(8), 9);
        c.due("layers that came", x.count(9), 360);
        c.due("layers that went", x.count(10), 0);
        c.due("shave of a copy", x.shave(0), 3);
    }

    private static void shaveIsRefusedAndThrows() {
        WaxCopies x = new WaxCopies();
        c.due("all smooth", x.shave(5), -1);
        c.due("refused so far", x.count(11), 1);
        cylinder("refused", x, 5, 60, 0, 0, -1, 0);
        c.due("saved states", x.count(12), 1);
        x.renew(0, 9);
        x.speak(0, 9);
        c.due("to the core", x.shave(0), 9);
        c.due("no layers", x.cylinderOf(0, 0), 0);
        c.due("nothing to cut", x.speak(0, 1), 2);
        int states = x.count(12);
        c.dueThrow("shave(-1)", INDEX, () -> x.shave(-1));
        c.dueThrow("shave(6)", INDEX, () -> x.shave(6));
        for (int far : FAR) {
            c.dueThrow("shave far", INDEX, () -> x.shave(far));
        }
        c.due("saved states", x.count(12), states);
    }

    // promise 6
    private static void windTellsByHowMuch() {
        WaxCopies x = new WaxCopies();
        c.due("wind()", x.wind(), 0);
        x.speak(0, 9);
        x.play(0);
        c.due("wind()", x.wind(), 15);
        c.due("spring", x.count(1), 100);
        c.due("sharpness stays", x.count(0), 91);
        c.due("saved states", x.count(12), 4);
        c.due("undo", x.undo(), 3);
        c.due("spring", x.count(1), 85);
    }

    // promise 7
    private static void sharpenTellsByHowMuch() {
        WaxCopies x = new WaxCopies();
        c.due("sharpen()", x.sharpen(), 0);
        x.speak(0, 9);
        x.speak(1, 8);
        c.due("sharpen()", x.sharpen(), 17);
        c.due("sharpness", x.count(0), 100);
        c.due("spring stays", x.count(1), 80);
        c.due("saved states", x.count(12), 4);
        c.due("undo", x.undo(), 3);
        c.due("sharpness", x.count(0), 83);
        for (int i = 2; i < 14; i++) {
            x.wind();
            x.speak(i, 9);
        }
        c.due("sharpness at least 0", x.count(0), 0);
        x.wind();
        x.speak(15, 9);
        c.due("bluntness 25", x.trackOf(15, 1), 60);
        c.due("from 0 to 100", x.sharpen(), 100);
    }

    // promise 8
    private static void renewPutsABlank() {
        WaxCopies x = new WaxCopies();
        x.speak(8, 6);
        x.shave(2);
        x.speak(9, 4);
        x.copy(9, 0, 2);
        cylinder("before", x, 2, 54, 1, 4, 9, 1);
        c.due("renew(2, 100)", x.renew(2, 100), 54);
        cylinder("after", x, 2, 100, 0, 0, -1, 0);
        track("after", x, 9, 0, -1, -1, -1, -1, -1, -1);
        c.due("copy keeps its mother's number", x.trackOf(0, 4), 9);
        counts("after", x, 86, 60, 0, 1, 2, 1, 0, 400, 6, 460, 54, 0, 5);
        c.due("renew(2, 0)", x.renew(2, 0), 100);
        c.due("renew(2, 0) again", x.renew(2, 0), 0);
        counts("after", x, 86, 60, 0, 1, 2, 1, 0, 300, 6, 460, 154, 0, 6);
        c.due("accounts", x.count(9) - x.count(8) - x.count(10), x.count(7));
        c.dueThrow("renew(-1, 0)", INDEX, () -> x.renew(-1, 0));
        c.dueThrow("renew(6, 0)", INDEX, () -> x.renew(6, 0));
        c.dueThrow("renew(6, 101)", INDEX, () -> x.renew(6, 101));
        c.dueThrow("renew(0, -1)", ARGUMENT, () -> x.renew(0, -1));
        c.dueThrow("renew(0, 101)", ARGUMENT, () -> x.renew(0, 101));
        for (int far : FAR) {
            c.dueThrow("renew far cylinder", INDEX, () -> x.renew(far, 1));
            c.dueThrow("renew far layers", ARGUMENT, () -> x.renew(1, far));
        }
        c.due("layers that came", x.count(9), 460);
        c.due("undo of the second 0", x.undo(), 5);
        c.due("undo of the first 0", x.undo(), 4);
        c.due("layers", x.cylinderOf(2, 0), 100);
        c.due("undo of the 100", x.undo(), 3);
        cylinder("undone", x, 2, 54, 1, 4, 9, 1);
        c.due("layers that went", x.count(10), 0);
    }

    // promise 9, promise 20
    private static void setChangesTheWear() {
        WaxCopies x = new WaxCopies();
        c.due("set(0)", x.set(0), 3);
        c.due("set(20)", x.set(20), 0);
        c.due("set(20) again", x.set(20), 20);
        c.due("saved states", x.count(12), 3);
        c.dueThrow("set(-1)", ARGUMENT, () -> x.set(-1));
        c.dueThrow("set(21)", ARGUMENT, () -> x.set(21));
        for (int far : FAR) {
            c.dueThrow("set far", ARGUMENT, () -> x.set(far));
        }
        c.due("setting", x.setting(), 20);
        c.due("saved states", x.count(12), 3);
        x.undo();
        x.undo();
        c.due("undone", x.setting(), 0);
        x.undo();
        c.due("undone", x.setting(), 3);
    }

    private static void settingTellsTheWear() {
        WaxCopies x = new WaxCopies();
        c.due("setting", x.setting(), 3);
        x.set(7);
        c.due("setting", x.setting(), 7);
        x.speak(0, 9);
        x.play(0);
        c.due("wear by the setting", x.trackOf(0, 1), 78);
        c.due("a look saves nothing", x.count(12), 3);
    }

    // promise 10
    private static void appendFillsTheBuffer() {
        WaxCopies x = new WaxCopies();
        c.due("append(33)", x.append(33), 1);
        c.due("append(126)", x.append(126), 2);
        c.dueThrow("append(32)", ARGUMENT, () -> x.append(32));
        c.dueThrow("append(127)", ARGUMENT, () -> x.append(127));
        for (int far : FAR) {
            c.dueThrow("append far", ARGUMENT, () -> x.append(far));
        }
        c.dueThrow("append(65536 + 'w')", ARGUMENT, () -> x.append(65536 + 'w'));
        for (int i = 3; i <= 60; i++) {
            c.due("append", x.append('w'), i);
        }
        c.dueThrow("61st", STATE, () -> x.append('w'));
        c.dueThrow("61st, wrong code", ARGUMENT, () -> x.append(32));
        c.due("not undoable", x.count(12), 0);
        c.due("length", x.clearBuffer(), 60);
        c.due("append after clearing", x.append('w'), 1);
    }

    // promise 11
    private static void clearBufferTellsItsLength() {
        WaxCopies x = new WaxCopies();
        c.due("empty", x.clearBuffer(), 0);
        type(x, "sa0=9");
        c.due("five", x.clearBuffer(), 5);
        c.due("none", x.clearBuffer(), 0);
        c.due("not undoable", x.count(12), 0);
        type(x, "w");
        c.due("what was there is gone", x.run(), 1);
        c.due("track a0", x.trackOf(0, 0), 0);
    }

    // promise 12
    private static void firstErrorByPlace() {
        firstError("", 0);
        firstError("s", 1);
        firstError("sa", 2);
        firstError("sa0", 3);
        firstError("sa0=", 4);
        firstError("sa0=9", 5);
        firstError("sa0=1;", 6);
        firstError("sf3=5;ca0>f3*3;pb2;xc;w", 23);
        firstError("w;w;", 4);
        firstError("w;w;;", 4);
        firstError(";", 0);
        firstError("w;;", 2);
        firstError("ww", 1);
        firstError("q", 0);
        firstError("S", 0);
        firstError("sg", 1);
        firstError("s`", 1);
        firstError("sA", 1);
        firstError("sa4", 2);
        firstError("sa/", 2);
        firstError("sa0>", 3);
        firstError("sa0=0", 4);
        firstError("sa0=:", 4);
        firstError("sa0=12", 5);
        firstError("cb1=", 3);
        firstError("cb1>g", 4);
        firstError("cb1>f4", 5);
        firstError("cb1>f3=", 6);
        firstError("cb1>f3*0", 7);
        firstError("cb1>f3*4", 7);
        firstError("cb1>f3*1", 8);
        firstError("cb1>f3*3c", 8);
        firstError("pa0=", 3);
        firstError("p0", 1);
        firstError("xa0", 2);
        firstError("xg", 1);
        firstError("xf;xf;", 6);
        firstError("w;pa0;xa;q", 9);
        firstError("q;w", 0);
        WaxCopies x = new WaxCopies();
        type(x, "pa0;pa0;pa0;pa0;pa0;pa0;pa0;pa0;pa0;pa0;pa0;pa0;pa0;pa0;pa0;");
        c.due("60 characters", x.firstError(), 60);
        x.clearBuffer();
        type(x, "pa0;pa0;pa0;pa0;pa0;pa0;pa0;pa0;pa0;pa0;pa0;pa0;pa0;pa0;w;ca");
        c.due("no orders as a text are too long", x.firstError(), 60);
        x.clearBuffer();
        type(x, "pa0;pa0;pa0;pa0;pa0;pa0;pa0;pa0;pa0;pa0;pa0;pa0;pa0;pa0;pa0w");
        c.due("the last one of 60", x.firstError(), 59);
    }

    private static void firstError(String text, int due) {
        WaxCopies x = new WaxCopies();
        type(x, text);
        c.due("firstError of " + text, x.firstError(), due);
        c.due("firstError of " + text + " changes nothing", x.clearBuffer(), text.length());
        c.due("firstError of " + text + " saves nothing", x.count(12), 0);
    }

    // promise 13
    private static void runDoesOrders() {
        WaxCopies x = new WaxCopies();
        type(x, "sb2=7;cb2>f3*1;pf3;xb;w;sa0=9");
        c.due("run", x.run(), 6);
        c.due("buffer is cleared", x.clearBuffer(), 0);
        c.due("one saved state", x.count(12), 1);
        track("spoken and shaved", x, 6, 0, -1);
        // 75 of the mother, 12 for the lever, 1 for 93; 3 for the play
        track("copied and played", x, 23, 3, 59, 0, 1, 6, 62, 1);
        track("spoken", x, 0, 9, 83, 0, 0, -1, 83, 0);
        counts("after run", x, 81, 90, 0, 2, 2, 1, 1, 353, 7, 360, 0, 0, 1);
        c.due("undone as one", x.undo(), 0);
        counts("undone", x, 100, 100, 0, 0, 0, 0, 0, 360, 0, 360, 0, 0, 0);
        c.due("the buffer stays cleared", x.clearBuffer(), 0);
        type(x, "w");
        c.due("one order", x.run(), 1);
        c.due("saved", x.count(12), 1);
        type(x, "sa0=1;sb0=2;sc0=3;sd0=4;se0=5;sf0=6;sa3=7;sf3=8");
        c.due("eight orders", x.run(), 8);
        int[] tracks = {0, 4, 8, 12, 16, 20, 3, 23};
        for (int i = 0; i < tracks.length; i++) {
            c.due("depth of " + tracks[i], x.trackOf(tracks[i], 0), i + 1);
        }
    }

    private static void runStopsAtARefusal() {
        WaxCopies x = new WaxCopies();
        type(x, "sa0=1;sa0=2;w");
        c.due("stopped by speaking", x.run(), 1);
        c.due("refused", x.count(11), 1);
        c.due("not wound", x.count(1), 90);
        c.due("cleared", x.clearBuffer(), 0);
        type(x, "pa1;w");
        c.due("stopped by playing", x.run(), 0);
        type(x, "xb;w");
        c.due("stopped by shaving", x.run(), 0);
        type(x, "ca0>a1*1;w");
        c.due("stopped by copying", x.run(), 0);
        c.due("not wound", x.count(1), 90);
        c.due("refused", x.count(11), 4);
        c.due("saved, also if none is done", x.count(12), 4);
        type(x, "w;w;pa0;pa1;xa");
        c.due("three", x.run(), 3);
        c.due("not shaved", x.trackOf(0, 0), 1);
        c.due("wound, then played", x.count(1), 95);
        x.set(20);
        x.play(0);
        x.play(0);
        type(x, "pa0;pa0;pa0");
        c.due("a play of clearness 0 is no refusal", x.run(), 3);
    }

    private static void runThrows() {
        WaxCopies x = new WaxCopies();
        c.dueThrow("empty", ARGUMENT, () -> x.run());
        String[] texts = {"s", "sa0=", "sa0=1;", "w;", ";", "q", "w;q", "ww", "xa0", "sa0=1;sa1", "ca0>b0*", "w w"};
        for (String text : texts) {
            x.clearBuffer();
            type(x, text.replace(" ", "~"));
            c.dueThrow("run of " + text, ARGUMENT, () -> x.run());
            c.due("buffer stays: " + text, x.clearBuffer(), text.length());
        }
        counts("throws change nothing", x, 100, 100, 0, 0, 0, 0, 0, 360, 0, 360, 0, 0, 0);
        type(x, "w;w;w;w;w;w;w;w;w;w;w;w;w;w;w;w;w;w;w;w;w;w;w;w;w;w;w;w;w;w;");
        c.dueThrow("60 characters with a last ;", ARGUMENT, () -> x.run());
        x.clearBuffer();
        type(x, "pa0;w;w;w;w;w;w;w;w;w;w;w;w;w;w;w;w;w;w;w;w;w;w;w;w;w;w;pa0");
        c.due("a long text", x.run(), 0);
        type(x, "w;w;w;w;w;w;w;w;w;w;w;w;w;w;w;w;w;w;w;w;w;w;w;w;w;w;w;w;w;xa");
        c.due("60 characters", x.run(), 29);
    }

    // promise 14, promise 15
    private static void keepAndGoBack() {
        WaxCopies x = new WaxCopies();
        c.due("keep(1) of none", x.keep(1), 0);
        x.speak(0, 9);
        x.speak(4, 9);
        x.set(9);
        c.due("keep(0)", x.keep(0), 2);
        c.due("keep is not undoable", x.count(12), 3);
        x.shave(0);
        x.play(4);
        x.play(5);
        x.renew(3, 10);
        x.sharpen();
        type(x, "pa");
        c.due("goBack(0)", x.goBack(0), 2);
        counts("back", x, 82, 80, 0, 2, 2, 0, 0, 360, 0, 360, 0, 0, 6);
        track("back", x, 0, 9, 85, 0, 0, -1, 85, 0);
        c.due("setting", x.setting(), 9);
        c.due("buffer stays", x.clearBuffer(), 2);
        c.due("goBack is undoable", x.undo(), 5);
        c.due("after undo", x.count(3), 1);
        c.due("layers", x.count(7), 301);
        c.due("refused", x.count(11), 1);
        x.speak(20, 1);
        c.due("the snapshot stays", x.goBack(0), 2);
        c.due("track 20", x.trackOf(20, 0), 0);
        c.due("goBack(1)", x.goBack(1), 0);
        c.due("setting", x.setting(), 3);
        x.speak(8, 3);
        c.due("keep(1) in place", x.keep(1), 1);
        c.due("goBack(0)", x.goBack(0), 2);
        c.due("goBack(1)", x.goBack(1), 1);
        c.due("depth", x.trackOf(8, 0), 3);
        WaxCopies y = new WaxCopies();
        c.dueThrow("keep(-1)", ARGUMENT, () -> y.keep(-1));
        c.dueThrow("keep(2)", ARGUMENT, () -> y.keep(2));
        c.dueThrow("goBack(-1)", ARGUMENT, () -> y.goBack(-1));
        c.dueThrow("goBack(2)", ARGUMENT, () -> y.goBack(2));
        c.dueThrow("goBack(0)", STATE, () -> y.goBack(0));
        y.keep(0);
        c.dueThrow("goBack(1), the other slot is taken", STATE, () -> y.goBack(1));
        for (int far : FAR) {
            c.dueThrow("keep far", ARGUMENT, () -> y.keep(far));
            c.dueThrow("goBack far", ARGUMENT, () -> y.goBack(far));
        }
        c.due("throws save nothing", y.count(12), 0);
        y.speak(0, 1);
        y.undo();
        c.due("undo does not empty a slot", y.goBack(0), 0);
    }

    /** A track that is cut anew differs in each property; going back and undoing bring the old one. */
    private static void cutAnewAndBack() {
        WaxCopies x = new WaxCopies();
        for (int i = 0; i < 6; i++) {
            x.speak(4 + i, 1);
        }
        x.speak(20, 7);
        x.copy(20, 0, 3);
        x.play(0);
        // the mother: 75 less the bluntness 1, flutter 2 at 40; the copy: 4 for the lever, 3 for 87, flutter 4 at 30
        int[] old = {9, 60, 6, 1, 20, 63, 1};
        track("before", x, 0, old);
        x.keep(1);
        x.wind();
        x.shave(0);
        x.speak(0, 2);
        track("cut anew", x, 0, 2, 45, 0, 0, -1, 45, 0);
        x.goBack(1);
        track("back", x, 0, old);
        x.undo();
        track("undone", x, 0, 2, 45, 0, 0, -1, 45, 0);
        x.undo();
        x.undo();
        track("undone thrice", x, 0, old);
        c.due("spring", x.count(1), 100);
    }

    // promise 16
    private static void undoRestores() {
        WaxCopies x = new WaxCopies();
        for (int i = 0; i < 8; i++) {
            x.speak(i, i + 1);
        }
        c.due("at most 6", x.count(12), 6);
        type(x, "w");
        for (int i = 7; i >= 2; i--) {
            c.due("undo", x.undo(), i - 2);
            c.due("smooth again", x.trackOf(i, 0), 0);
            c.due("before it", x.trackOf(i - 1, 0), i);
            c.due("spoken so far", x.count(4), i);
            c.due("spring", x.count(1), 100 - 10 * i);
            c.due("saved states", x.count(12), i - 2);
        }
        c.dueThrow("none is left", STATE, () -> x.undo());
        c.due("the first two stay", x.count(3), 2);
        c.due("buffer stays", x.clearBuffer(), 1);
        x.play(0);
        c.due("saved anew", x.count(12), 1);
        c.due("undo", x.undo(), 0);
        c.due("plays", x.trackOf(0, 6), 0);
    }

    private static void undoRestoresEachMethod() {
        WaxCopies x = new WaxCopies();
        type(x, "sa0=9;cb0>a0*1");
        x.run();
        x.speak(5, 8);
        x.play(0);
        x.keep(1);
        String[] names = {"speak", "copy", "play", "shave", "wind", "sharpen", "renew", "set", "goBack", "run",
            "refused speak", "refused copy", "refused play", "refused shave"};
        for (int i = 0; i < names.length; i++) {
            // six saved states are more than two, so that a state too many or too few shows
            while (x.count(12) > 2) {
                x.undo();
            }
            while (x.count(12) < 2) {
                x.set(11 + i);
            }
            long before = x.digest();
            doByNumber(x, i);
            c.due(names[i] + " saves one state", x.count(12), 3);
            c.due(names[i] + " is undone", x.undo(), 2);
            c.due(names[i] + ": all as before", x.digest(), before);
        }
    }

    private static void doByNumber(WaxCopies x, int number) {
        switch (number) {
            case 0 -> x.speak(20, 4);
            case 1 -> x.copy(0, 20, 3);
            case 2 -> x.play(0);
            case 3 -> x.shave(0);
            case 4 -> x.wind();
            case 5 -> x.sharpen();
            case 6 -> x.renew(0, 90);
            case 7 -> x.set(1);
            case 8 -> x.goBack(1);
            case 9 -> {
                type(x, "w;sf0=2;w;pf0;xf;pf0;w");
                x.run();
            }
            case 10 -> x.speak(0, 1);
            case 11 -> x.copy(0, 1, 1);
            case 12 -> x.play(19);
            default -> x.shave(3);
        }
    }

    private static void refusalsAreSavedAndThrowsAreNot() {
        WaxCopies x = new WaxCopies();
        x.play(0);
        x.shave(0);
        x.copy(0, 4, 1);
        c.due("refused", x.count(11), 3);
        c.due("saved", x.count(12), 3);
        x.undo();
        c.due("what is counted is restored", x.count(11), 2);
        x.undo();
        x.undo();
        c.due("none", x.count(11), 0);
        x.wind();
        x.sharpen();
        x.set(3);
        c.due("saved though nothing changes", x.count(12), 3);
    }

    // promise 17
    private static void trackOfTellsProperties() {
        WaxCopies x = new WaxCopies();
        x.speak(23, 4);
        x.copy(23, 2, 3);
        x.play(2);
        x.play(2);
        // 60 of the mother, 4 for the lever, 1 for 96; 6 for the plays
        track("copied", x, 2, 6, 49, 0, 1, 23, 55, 2);
        track("spoken", x, 23, 4, 60, 0, 0, -1, 60, 0);
        track("smooth", x, 3, 0, -1, -1, -1, -1, -1, -1);
        x.shave(0);
        track("shaved", x, 2, 0, -1, -1, -1, -1, -1, -1);
        x.speak(2, 1);
        track("spoken anew", x, 2, 1, 43, 0, 0, -1, 43, 0);
        c.dueThrow("trackOf(-1, 0)", INDEX, () -> x.trackOf(-1, 0));
        c.dueThrow("trackOf(24, 0)", INDEX, () -> x.trackOf(24, 0));
        c.dueThrow("trackOf(24, 7)", INDEX, () -> x.trackOf(24, 7));
        c.dueThrow("trackOf(0, -1)", ARGUMENT, () -> x.trackOf(0, -1));
        c.dueThrow("trackOf(0, 7)", ARGUMENT, () -> x.trackOf(0, 7));
        c.dueThrow("trackOf(23, 7)", ARGUMENT, () -> x.trackOf(23, 7));
        for (int far : FAR) {
            c.dueThrow("trackOf far track", INDEX, () -> x.trackOf(far, 0));
            c.dueThrow("trackOf far what", ARGUMENT, () -> x.trackOf(0, far));
        }
        c.due("looks save nothing", x.count(12), 6);
    }

    // promise 18
    private static void cylinderOfTellsProperties() {
        WaxCopies x = new WaxCopies();
        x.speak(12, 4);
        x.speak(13, 9);
        x.speak(15, 9);
        cylinder("three cut", x, 3, 60, 3, 9, 13, 0);
        // the clearest is told by clearness alone: 14 flutters, 15 does not, both are at 60
        WaxCopies y = new WaxCopies();
        y.set(0);
        y.speak(20, 4);
        for (int i = 0; i < 10; i++) {
            y.play(20);
        }
        y.sharpen();
        y.speak(14, 4);
        y.sharpen();
        y.wind();
        y.speak(15, 4);
        c.due("14 flutters", y.trackOf(14, 2), 2);
        c.due("15 does not", y.trackOf(15, 2), 0);
        c.due("as clear", y.trackOf(14, 1), y.trackOf(15, 1));
        c.due("of several the lowest", y.cylinderOf(3, 3), 14);
        y.shave(3);
        y.shave(3);
        y.speak(12, 1);
        y.shave(3);
        cylinder("shaved twice", y, 3, 55, 0, 0, -1, 2);
        y.renew(3, 60);
        c.due("shaved as this blank", y.cylinderOf(3, 4), 0);
        c.dueThrow("cylinderOf(-1, 0)", INDEX, () -> y.cylinderOf(-1, 0));
        c.dueThrow("cylinderOf(6, 0)", INDEX, () -> y.cylinderOf(6, 0));
        c.dueThrow("cylinderOf(6, 5)", INDEX, () -> y.cylinderOf(6, 5));
        c.dueThrow("cylinderOf(0, -1)", ARGUMENT, () -> y.cylinderOf(0, -1));
        c.dueThrow("cylinderOf(0, 5)", ARGUMENT, () -> y.cylinderOf(0, 5));
        for (int far : FAR) {
            c.dueThrow("cylinderOf far", INDEX, () -> y.cylinderOf(far, 0));
            c.dueThrow("cylinderOf far what", ARGUMENT, () -> y.cylinderOf(0, far));
        }
    }

    // promise 19
    private static void countTellsNumbers() {
        WaxCopies x = new WaxCopies();
        x.speak(0, 9);
        x.copy(0, 4, 2);
        x.copy(4, 8, 2);
        x.play(0);
        x.play(1);
        x.shave(2);
        x.renew(5, 10);
        counts("seven calls", x, 73, 45, 1, 2, 1, 2, 1, 301, 9, 370, 60, 1, 6);
        c.dueThrow("count(-1)", ARGUMENT, () -> x.count(-1));
        c.dueThrow("count(13)", ARGUMENT, () -> x.count(13));
        for (int far : FAR) {
            c.dueThrow("count far", ARGUMENT, () -> x.count(far));
        }
        // the flutter of the machine: 0 at 50, (50 - spring) / 5 rounded down below
        WaxCopies y = new WaxCopies();
        y.speak(0, 1);
        int[] due = {0, 0, 0, 0, 0, 0, 0, 0, 1, 2, 3, 4, 5, 6, 7, 8, 9, 10};
        for (int i = 0; i < due.length; i++) {
            y.play(0);
            c.due("flutter of the machine at " + y.count(1), y.count(2), due[i]);
        }
    }

    // promise 21
    private static void whyNotChangesNothing() {
        WaxCopies x = new WaxCopies();
        c.due("whyNot of 9", x.whyNot(0, 9), 0);
        x.renew(0, 8);
        c.due("whyNot of layers", x.whyNot(0, 9), 2);
        c.due("whyNot of just enough", x.whyNot(0, 8), 0);
        x.speak(0, 8);
        c.due("whyNot of cut", x.whyNot(0, 9), 1);
        x.set(0);
        for (int i = 0; i < 17; i++) {
            x.play(0);
        }
        c.due("whyNot of the spring", x.whyNot(4, 9), 3);
        c.due("whyNot of layers ahead", x.whyNot(1, 9), 2);
        c.due("nothing is refused", x.count(11), 0);
        c.dueThrow("whyNot(-1, 1)", INDEX, () -> x.whyNot(-1, 1));
        c.dueThrow("whyNot(24, 0)", INDEX, () -> x.whyNot(24, 0));
        c.dueThrow("whyNot(0, 0)", ARGUMENT, () -> x.whyNot(0, 0));
        c.dueThrow("whyNot(0, 10)", ARGUMENT, () -> x.whyNot(0, 10));
        for (int far : FAR) {
            c.dueThrow("whyNot far", INDEX, () -> x.whyNot(far, 1));
            c.dueThrow("whyNot far loudness", ARGUMENT, () -> x.whyNot(0, far));
        }
        WaxCopies y = new WaxCopies();
        y.whyNot(0, 5);
        c.due("nothing is saved", y.count(12), 0);
        c.due("nothing is cut", y.count(3), 0);
    }

    // promise 22
    private static void ifCopiedTellsClearness() {
        WaxCopies x = new WaxCopies();
        c.due("smooth", x.ifCopied(0, 4, 1), -1);
        x.speak(0, 9);
        x.speak(4, 9);
        // sharpness 82: bluntness 4
        c.due("lever 1", x.ifCopied(0, 8, 1), 69);
        c.due("lever 2", x.ifCopied(0, 8, 2), 75);
        c.due("lever 3", x.ifCopied(0, 8, 3), 77);
        c.due("cut", x.ifCopied(0, 4, 1), -2);
        c.due("same cylinder", x.ifCopied(0, 1, 1), -3);
        x.renew(5, 8);
        c.due("layers", x.ifCopied(0, 20, 2), -4);
        c.due("layers are enough", x.ifCopied(0, 20, 1), 69);
        x.set(20);
        for (int i = 0; i < 10; i++) {
            x.play(0);
        }
        c.due("spring at 30", x.count(1), 30);
        c.due("clearness 0", x.ifCopied(0, 8, 1), 0);
        c.due("with the flutter of 4", x.ifCopied(4, 8, 3), 71);
        x.play(0);
        x.play(0);
        x.play(0);
        c.due("spring at 15", x.ifCopied(4, 8, 3), -5);
        c.due("nothing is refused", x.count(11), 0);
        c.due("nothing is copied", x.count(5), 0);
        c.dueThrow("ifCopied(24, 0, 0)", INDEX, () -> x.ifCopied(24, 0, 0));
        c.dueThrow("ifCopied(0, 24, 0)", INDEX, () -> x.ifCopied(0, 24, 0));
        c.dueThrow("ifCopied(-1, 0, 1)", INDEX, () -> x.ifCopied(-1, 0, 1));
        c.dueThrow("ifCopied(0, -1, 1)", INDEX, () -> x.ifCopied(0, -1, 1));
        c.dueThrow("ifCopied(0, 0, 0)", ARGUMENT, () -> x.ifCopied(0, 0, 0));
        c.dueThrow("ifCopied(0, 0, 4)", ARGUMENT, () -> x.ifCopied(0, 0, 4));
        for (int far : FAR) {
            c.dueThrow("ifCopied far mother", INDEX, () -> x.ifCopied(far, 0, 1));
            c.dueThrow("ifCopied far track", INDEX, () -> x.ifCopied(0, far, 1));
            c.dueThrow("ifCopied far lever", ARGUMENT, () -> x.ifCopied(0, 4, far));
        }
    }

    // promise 23
    private static void chainTellsTheClearest() {
        WaxCopies x = new WaxCopies();
        chains("smooth", x, 0, -1, -1, -1, -1, -1);
        x.speak(0, 1);
        x.sharpen();
        // depth 1 stays 1 by each lever: 4 for lever 3, then bluntness of 99, 98, 97, 96: 0, 0, 0, 1
        chains("depth 1", x, 0, 41, 37, 33, 29, 24);
        x.speak(4, 9);
        x.sharpen();
        // lever 3 keeps 9: 4 each, and 0, 2, 4, 6, 9 for 100, 91, 82, 73, 64
        c.due("depth 9, one copy", x.chain(4, 1, 0), 81);
        c.due("depth 9, two copies", x.chain(4, 2, 0), 75);
        // neither the spring nor layers nor free tracks matter
        int before = x.chain(4, 5, 0);
        x.set(0);
        for (int i = 0; i < 16; i++) {
            x.play(0);
        }
        for (int cylinder = 0; cylinder < 6; cylinder++) {
            if (cylinder != 1) {
                x.renew(cylinder, 0);
            }
        }
        c.due("without spring and layers", x.chain(4, 5, 0), before);
        c.due("without spring and layers", x.chain(4, 5, 1), before);
        chainsThatBlunt();
        chainsOfDull();
        chainsForgetEarlierOnes();
    }

    /** Asked again and again, of tracks of all depths, at one sharpness: nothing of an answer stays. */
    private static void chainsForgetEarlierOnes() {
        WaxCopies x = new WaxCopies();
        for (int track = 0; track < 9; track++) {
            x.speak(track, 9 - track);
        }
        for (int copies = 5; copies >= 1; copies--) {
            for (int track = 0; track < 9; track++) {
                String what = "chain of " + copies + " of " + track + " after others";
                c.due(what, x.chain(track, copies, 0), x.chain(track, copies, 1));
            }
        }
    }

    /** Where the lever 3, the best for one copy, is not the best for several: it cuts deeper. */
    private static void chainsThatBlunt() {
        for (int loudness = 1; loudness <= 9; loudness++) {
            WaxCopies x = new WaxCopies();
            x.speak(0, loudness);
            for (int copies = 1; copies <= 5; copies++) {
                int due = clearestByAllLeverRows(x, copies);
                c.due("chain of " + copies + " at " + loudness, x.chain(0, copies, 0), due);
                c.due("chain of " + copies + " at " + loudness + " by levers", x.chain(0, copies, 1), due);
            }
        }
    }

    private static int clearestByAllLeverRows(WaxCopies x, int copies) {
        int rows = 1;
        for (int i = 0; i < copies; i++) {
            rows *= 3;
        }
        int best = -1;
        for (int row = 0; row < rows; row++) {
            int depth = x.trackOf(0, 0);
            int clear = x.trackOf(0, 1);
            int sharp = x.count(0);
            int rest = row;
            for (int i = 0; i < copies; i++) {
                int lever = rest % 3 + 1;
                rest /= 3;
                clear = Math.max(0, clear - 12 / lever - (100 - sharp) / 4);
                depth = Math.min(9, Math.max(1, depth * lever / 2));
                sharp = Math.max(0, sharp - depth);
            }
            best = Math.max(best, clear);
        }
        return best;
    }

    private static void chainsOfDull() {
        WaxCopies x = new WaxCopies();
        x.speak(0, 1);
        x.set(20);
        x.play(0);
        x.play(0);
        chains("clearness 5", x, 0, 1, 0, 0, 0, 0);
        x.play(0);
        chains("clearness 0", x, 0, 0, 0, 0, 0, 0);
        WaxCopies y = new WaxCopies();
        for (int i = 0; i < 12; i++) {
            y.speak(i, 9);
            y.wind();
        }
        c.due("point at 0", y.count(0), 0);
        // 85 less 4 and 25 for each copy: 56, 27, 0
        chains("point at 0", y, 0, 56, 27, 0, 0, 0);
    }

    private static void chains(String what, WaxCopies x, int track, int... due) {
        for (int i = 0; i < due.length; i++) {
            c.due(what + ": chain of " + (i + 1) + " with 0", x.chain(track, i + 1, 0), due[i]);
            c.due(what + ": chain of " + (i + 1) + " with 1", x.chain(track, i + 1, 1), due[i]);
        }
    }

    private static void chainThrows() {
        WaxCopies x = new WaxCopies();
        c.dueThrow("chain(-1, 1, 0)", INDEX, () -> x.chain(-1, 1, 0));
        c.dueThrow("chain(24, 0, 2)", INDEX, () -> x.chain(24, 0, 2));
        for (int track = 0; track < 2; track++) {
            int at = track;
            c.dueThrow("chain of 0", ARGUMENT, () -> x.chain(at, 0, 0));
            c.dueThrow("chain of 6", ARGUMENT, () -> x.chain(at, 6, 1));
            c.dueThrow("chain with -1", ARGUMENT, () -> x.chain(at, 1, -1));
            c.dueThrow("chain with 2", ARGUMENT, () -> x.chain(at, 1, 2));
            x.speak(1, 5);
        }
        for (int far : FAR) {
            c.dueThrow("chain far track", INDEX, () -> x.chain(far, 1, 0));
            c.dueThrow("chain far copies", ARGUMENT, () -> x.chain(1, far, 0));
            c.dueThrow("chain far what", ARGUMENT, () -> x.chain(1, 1, far));
        }
    }

    // promise 24
    private static void clearestOfSeveral() {
        WaxCopies x = new WaxCopies();
        c.due("all smooth", x.clearest(), -1);
        x.speak(5, 3);
        c.due("the only one", x.clearest(), 5);
        x.speak(9, 4);
        c.due("the clearer one", x.clearest(), 9);
        x.set(20);
        x.play(9);
        c.due("the worn one is not", x.clearest(), 5);
        WaxCopies y = new WaxCopies();
        y.set(0);
        y.speak(20, 1);
        for (int i = 0; i < 10; i++) {
            y.play(20);
        }
        y.sharpen();
        y.speak(3, 6);
        y.sharpen();
        c.due("3 flutters", y.trackOf(3, 2), 2);
        c.due("the flutter does not matter if it is clearer", y.clearest(), 3);
        y.wind();
        y.speak(10, 6);
        y.sharpen();
        c.due("of several the one with the least flutter", y.clearest(), 10);
        y.speak(7, 6);
        y.sharpen();
        c.due("of these the lowest", y.clearest(), 7);
        y.speak(15, 6);
        c.due("of these the lowest", y.clearest(), 7);
        WaxCopies z = new WaxCopies();
        z.set(20);
        z.speak(2, 1);
        z.play(2);
        z.play(2);
        z.play(2);
        c.due("with clearness 0", z.clearest(), 2);
        WaxCopies first = new WaxCopies();
        first.speak(0, 9);
        first.speak(23, 8);
        c.due("the first track", first.clearest(), 0);
        first.set(20);
        first.play(0);
        c.due("the last track", first.clearest(), 23);
    }

    // promise 25
    private static void daughtersByNumber() {
        WaxCopies x = new WaxCopies();
        c.due("smooth", x.daughters(0), 0);
        x.speak(0, 4);
        x.copy(0, 4, 2);
        x.copy(4, 8, 2);
        x.wind();
        x.copy(0, 9, 2);
        x.copy(8, 12, 2);
        x.speak(23, 1);
        c.due("of the first", x.daughters(0), 4);
        c.due("of 4", x.daughters(4), 2);
        c.due("of 8", x.daughters(8), 1);
        c.due("of the last", x.daughters(12), 0);
        c.due("of 9", x.daughters(9), 0);
        c.due("of 23", x.daughters(23), 0);
        x.shave(0);
        c.due("of a smooth one, by its number", x.daughters(0), 4);
        x.renew(1, 50);
        c.due("the way ends at a smooth one", x.daughters(0), 1);
        c.due("but not if it is the one", x.daughters(4), 2);
        x.shave(2);
        c.due("what is smooth is no daughter", x.daughters(0), 0);
        c.due("of 8", x.daughters(8), 1);
        c.due("of 4", x.daughters(4), 0);
        x.speak(8, 1);
        c.due("as the numbers tell now", x.daughters(8), 1);
        c.due("a spoken one has no mother", x.daughters(4), 0);
        c.dueThrow("daughters(-1)", INDEX, () -> x.daughters(-1));
        c.dueThrow("daughters(24)", INDEX, () -> x.daughters(24));
        for (int far : FAR) {
            c.dueThrow("daughters far", INDEX, () -> x.daughters(far));
        }
    }

    private static void daughtersInARing() {
        WaxCopies x = new WaxCopies();
        x.speak(0, 4);
        x.copy(0, 4, 2);
        x.copy(4, 8, 2);
        x.shave(0);
        x.wind();
        x.copy(8, 0, 2);
        c.due("a generation more", x.trackOf(0, 3), 3);
        c.due("ring: of 0", x.daughters(0), 2);
        c.due("ring: of 4", x.daughters(4), 2);
        c.due("ring: of 8", x.daughters(8), 2);
        x.copy(0, 12, 2);
        c.due("ring with a tail: of 0", x.daughters(0), 3);
        c.due("ring with a tail: of 8", x.daughters(8), 3);
        c.due("the tail", x.daughters(12), 0);
        c.due("beside the ring", x.daughters(16), 0);
    }

    // promise 26
    private static void meanDepthDivides() {
        WaxCopies x = new WaxCopies();
        c.dueShare("without any", x.meanDepth(), 0.0f);
        x.speak(0, 9);
        c.dueShare("of one", x.meanDepth(), 9.0f);
        x.speak(1, 4);
        c.dueShare("of two", x.meanDepth(), 6.5f);
        x.speak(2, 1);
        x.speak(3, 2);
        x.speak(4, 3);
        x.speak(5, 1);
        c.dueShare("of six", x.meanDepth(), 20.0f / 6.0f);
        x.shave(0);
        c.dueShare("of two", x.meanDepth(), 2.0f);
        x.shave(1);
        c.dueShare("without any", x.meanDepth(), 0.0f);
    }

    // promise 27
    private static void clearShareDivides() {
        WaxCopies x = new WaxCopies();
        c.dueShare("without any", x.clearShare(), 0.0);
        x.speak(0, 9);
        c.dueShare("of one", x.clearShare(), 0.85);
        x.speak(1, 4);
        x.speak(6, 1);
        // 85, 58, 42
        c.dueShare("of three", x.clearShare(), 185.0 / 300.0);
        x.play(0);
        c.dueShare("worn", x.clearShare(), 182.0 / 300.0);
        x.shave(0);
        c.dueShare("shaved", x.clearShare(), 0.42);
        x.set(20);
        x.play(6);
        x.play(6);
        x.play(6);
        c.dueShare("clearness 0", x.clearShare(), 0.0);
    }

    // promise 28
    private static void digestIsAsTheListTells() {
        WaxCopies x = new WaxCopies();
        c.due("new", x.digest(), Situations.hashed(Situations.listed(x, 0, 0, "")));
        type(x, "sa0=9");
        c.due("with a text", x.digest(), Situations.hashed(Situations.listed(x, 0, 0, "sa0=9")));
        x.run();
        c.due("after run", x.digest(), Situations.hashed(Situations.listed(x, 0, 0, "")));
        x.keep(1);
        c.due("slot 1", x.digest(), Situations.hashed(Situations.listed(x, 0, 1, "")));
        x.copy(0, 4, 2);
        x.keep(0);
        c.due("both slots", x.digest(), Situations.hashed(Situations.listed(x, 1, 1, "")));
        x.copy(4, 9, 2);
        x.play(4);
        x.speak(17, 2);
        x.shave(0);
        x.set(20);
        type(x, "~!");
        c.due("more", x.digest(), Situations.hashed(Situations.listed(x, 1, 1, "~!")));
        for (int i = 0; i < 4; i++) {
            x.play(17);
        }
        c.due("worn down", x.digest(), Situations.hashed(Situations.listed(x, 1, 1, "~!")));
        WaxCopies y = new WaxCopies();
        y.set(20);
        y.speak(0, 1);
        y.play(0);
        y.play(0);
        y.set(2);
        y.play(0);
        y.play(0);
        y.wind();
        for (int track = 4; track < 24; track += 4) {
            y.copy(0, track, 1);
            y.wind();
        }
        c.due("the smallest share", y.digest(), Situations.hashed(Situations.listed(y, 0, 0, "")));
        c.dueShare("the smallest share", y.clearShare(), 1.0 / 600.0);
        int states = y.count(12);
        y.digest();
        c.due("digest saves nothing", y.count(12), states);
        digestOfWholeMeans();
    }

    /** The bits of 1, 2, 4 and 8 stand where an exponent ends; 4 and 5 layers stand around whyNot with 5. */
    private static void digestOfWholeMeans() {
        for (int depth = 1; depth <= 9; depth++) {
            WaxCopies x = new WaxCopies();
            x.renew(1, 4);
            x.renew(2, 5);
            x.speak(9, depth > 5 ? 5 : depth);
            x.renew(0, 3);
            x.speak(12, depth);
            x.speak(1, 3);
            c.due("9 onto 0, and 0 differs from 1", x.digest(), Situations.hashed(Situations.listed(x, 0, 0, "")));
            x.renew(0, 60);
            x.renew(2, 60);
            c.dueShare("mean " + depth, x.meanDepth(), depth);
            c.due("mean " + depth, x.digest(), Situations.hashed(Situations.listed(x, 0, 0, "")));
        }
    }
}
