/** The tests named by sentences of the promises 17 to 22: the looks, and what a call would return. */
final class LookSentences {
    private static final Class<IndexOutOfBoundsException> INDEX = Situations.INDEX;
    private static final Class<IllegalArgumentException> ARGUMENT = Situations.ARGUMENT;

    private static final String NO_TRACK = "Throws `IndexOutOfBoundsException` if there is no such track";

    private LookSentences() {
    }

    static void all(Sentences s) {
        trackOf(s);
        trackOfNone(s);
        cylinderOf(s);
        cylinderOfClearest(s);
        countMachine(s);
        countCalls(s);
        countLayers(s);
        countRefusedAndSaved(s);
        setting(s);
        whyNot(s);
        ifCopied(s);
    }

    private static void trackOf(Sentences s) {
        s.under("Promise 17: trackOf");
        s.test("Returns a property of a track.", c -> {
            WaxCopies x = Situations.atMachine(99, 40);
            x.speak(12, 7);
            x.wind();
            x.copy(12, 17, 2);
            x.play(17);
            int[] due = {7, 64, 2, 1, 12, 67, 1};
            for (int what = 0; what < due.length; what++) {
                c.due("trackOf(17, " + what + ")", x.trackOf(17, what), due[what]);
            }
        });
        s.test("`track`: 0 to 23", c -> Situations.takes(c, 0, 23, (x, track) -> x.trackOf(track, 6)));
        s.test("0: its depth, 0 if it is smooth", c -> {
            WaxCopies x = new WaxCopies();
            c.due("smooth", x.trackOf(0, 0), 0);
            x.speak(0, 9);
            c.due("cut", x.trackOf(0, 0), 9);
            x.shave(0);
            c.due("smooth again", x.trackOf(0, 0), 0);
            x.speak(0, 1);
            x.renew(0, 60);
            c.due("on a new blank", x.trackOf(0, 0), 0);
        });
        s.test("1: its clearness; 2: its flutter; 3: its generation; 4: its mother", c -> {
            WaxCopies x = Situations.spoken(0, 9);
            Situations.machineAt(x, 100, 20);
            x.copy(0, 4, 1);
            c.due("clearness", x.trackOf(4, 1), 67);
            c.due("flutter", x.trackOf(4, 2), 6);
            c.due("generation", x.trackOf(4, 3), 1);
            c.due("mother, the track 0", x.trackOf(4, 4), 0);
        });
        s.test("5: its clearness as it was cut", c -> {
            WaxCopies x = Situations.spoken(0, 9);
            x.set(20);
            for (int i = 0; i < 5; i++) {
                x.play(0);
            }
            c.due("worn to nothing", x.trackOf(0, 1), 0);
            c.due("as it was cut", x.trackOf(0, 5), 85);
            x.wind();
            x.copy(0, 4, 1);
            c.due("a copy of nothing", x.trackOf(4, 5), 0);
            x.shave(0);
            x.speak(0, 9);
            c.due("cut anew, with the bluntness 3", x.trackOf(0, 5), 82);
        });
        s.test("6: plays since it was cut", c -> {
            WaxCopies x = Situations.spoken(0, 9);
            c.due("none", x.trackOf(0, 6), 0);
            for (int plays = 1; plays <= 18; plays++) {
                x.play(0);
                c.due("plays", x.trackOf(0, 6), plays);
            }
            x.play(0);
            c.due("a refused one is none", x.trackOf(0, 6), 18);
            x.wind();
            x.copy(0, 4, 1);
            c.due("none of the copy", x.trackOf(4, 6), 0);
            x.shave(0);
            x.speak(0, 1);
            c.due("none since it is cut anew", x.trackOf(0, 6), 0);
        });
    }

    private static void trackOfNone(Sentences s) {
        s.test("NONE for 1 to 6 if it is smooth, and for 4 if it was spoken", c -> {
            WaxCopies x = new WaxCopies();
            for (int what = 1; what <= 6; what++) {
                c.due("smooth at first, " + what, x.trackOf(23, what), WaxCopies.NONE);
            }
            x.speak(23, 9);
            c.due("spoken", x.trackOf(23, 4), WaxCopies.NONE);
            x.play(23);
            x.copy(23, 0, 1);
            x.play(0);
            x.shave(0);
            x.renew(5, 60);
            for (int what = 1; what <= 6; what++) {
                c.due("shaved, " + what, x.trackOf(0, what), WaxCopies.NONE);
                c.due("on a new blank, " + what, x.trackOf(23, what), WaxCopies.NONE);
            }
        });
        s.test("Returns the property.", c -> {
            for (int track = 0; track < 24; track++) {
                WaxCopies x = Situations.spoken(track, 5);
                int[] due = {5, 65, 0, 0, -1, 65, 0};
                for (int what = 0; what < due.length; what++) {
                    c.due("trackOf(" + track + ", " + what + ")", x.trackOf(track, what), due[what]);
                }
            }
        });
        s.test(NO_TRACK, c -> Situations.throwsOutside(c, INDEX, 0, 23, (x, track) -> x.trackOf(track, 0)));
        s.test("Throws `IllegalArgumentException` if what is not 0 to 6", c -> {
            Situations.takes(c, 0, 6, (x, what) -> x.trackOf(0, what));
            Situations.throwsOutside(c, ARGUMENT, 0, 6, (x, what) -> x.trackOf(0, what));
            Situations.throwsOutside(c, ARGUMENT, 0, 6, (x, what) -> x.trackOf(1, what));
        });
    }

    private static void cylinderOf(Sentences s) {
        s.under("Promise 18: cylinderOf");
        s.test("Returns a property of a cylinder.", c -> {
            WaxCopies x = Situations.spoken(22, 9);
            x.shave(5);
            Situations.useUp(x, 5, 2, 7, 3);
            int[] due = {51, 3, 7, 21, 1};
            for (int what = 0; what < due.length; what++) {
                c.due("cylinderOf(5, " + what + ")", x.cylinderOf(5, what), due[what]);
            }
        });
        s.test("`cylinder`: 0 to 5", c -> Situations.takes(c, 0, 5, (x, cylinder) -> x.cylinderOf(cylinder, 3)));
        s.test("0: its layers; 1: tracks that are cut", c -> {
            WaxCopies x = new WaxCopies();
            x.renew(1, 100);
            for (int cut = 0; cut < 4; cut++) {
                c.due("tracks that are cut", x.cylinderOf(1, 1), cut);
                x.speak(7 - cut, 9);
                c.due("a cut takes no layers", x.cylinderOf(1, 0), 100);
            }
            c.due("all are cut", x.cylinderOf(1, 1), 4);
            x.shave(1);
            c.due("none is cut", x.cylinderOf(1, 1), 0);
            c.due("its layers", x.cylinderOf(1, 0), 91);
        });
        s.test("2: the greatest depth of its tracks", c -> {
            for (int deepest = 0; deepest < 4; deepest++) {
                WaxCopies x = Situations.spoken(3, 9);
                c.due("smooth", x.cylinderOf(1, 2), 0);
                int[] depths = {1, 1, 1, 1};
                depths[deepest] = 8;
                Situations.useUp(x, 1, depths);
                x.speak(8, 9);
                c.due("the deepest is the track " + deepest, x.cylinderOf(1, 2), 8);
                x.shave(1);
                c.due("smooth again", x.cylinderOf(1, 2), 0);
            }
        });
        s.test("4: how often it was shaved so far, as this blank", c -> {
            WaxCopies x = new WaxCopies();
            for (int times = 0; times < 5; times++) {
                c.due("times", x.cylinderOf(2, 4), times);
                x.shave(2);
                c.due("a refused one is none", x.cylinderOf(2, 4), times);
                x.speak(8, 1);
                x.shave(2);
                x.wind();
            }
            c.due("another one", x.cylinderOf(3, 4), 0);
            x.renew(2, 55);
            c.due("as a new blank", x.cylinderOf(2, 4), 0);
            x.undo();
            c.due("as the old one again", x.cylinderOf(2, 4), 5);
        });
    }

    private static void cylinderOfClearest(Sentences s) {
        s.test("3: its clearest track, of several the lowest, NONE if all are smooth", c -> {
            for (int clearest = 0; clearest < 4; clearest++) {
                WaxCopies x = Situations.spoken(3, 9);
                c.due("all are smooth", x.cylinderOf(1, 3), WaxCopies.NONE);
                for (int track = 0; track < 4; track++) {
                    Situations.speakAsClear(x, 4 + track, track == clearest ? 71 : 70);
                }
                c.due("the clearest", x.cylinderOf(1, 3), 4 + clearest);
                x.renew(1, 60);
                for (int track = clearest; track < 4; track++) {
                    Situations.speakAsClear(x, 4 + track, 70);
                }
                c.due("of several the lowest", x.cylinderOf(1, 3), 4 + clearest);
                x.renew(1, 60);
                Situations.speakAsClear(x, 4 + clearest, 0);
                c.due("with no clearness, but cut", x.cylinderOf(1, 3), 4 + clearest);
                x.shave(1);
                c.due("all are smooth again", x.cylinderOf(1, 3), WaxCopies.NONE);
            }
            WaxCopies x = Situations.atMachine(100, 40);
            x.speak(0, 1);
            Situations.machineAt(x, 100, 100);
            x.speak(1, 1);
            c.due("the lowest, though it flutters", x.cylinderOf(0, 3), 0);
        });
        s.test("Returns the property.", c -> {
            WaxCopies x = new WaxCopies();
            for (int cylinder = 0; cylinder < 6; cylinder++) {
                x.wind();
                x.speak(4 * cylinder + 2, cylinder + 1);
                int[] due = {60, 1, cylinder + 1, 4 * cylinder + 2, 0};
                for (int what = 0; what < due.length; what++) {
                    c.due("cylinderOf(" + cylinder + ", " + what + ")", x.cylinderOf(cylinder, what), due[what]);
                }
            }
        });
        s.test("Throws `IndexOutOfBoundsException` if there is no such cylinder",
            c -> Situations.throwsOutside(c, INDEX, 0, 5, (x, cylinder) -> x.cylinderOf(cylinder, 0)));
        s.test("Throws `IllegalArgumentException` if what is not 0 to 4", c -> {
            Situations.takes(c, 0, 4, (x, what) -> x.cylinderOf(0, what));
            Situations.throwsOutside(c, ARGUMENT, 0, 4, (x, what) -> x.cylinderOf(0, what));
        });
    }

    private static void countMachine(Sentences s) {
        s.under("Promise 19: count");
        s.test("Returns a number.", c -> {
            WaxCopies x = Situations.used();
            int[] due = {75, 45, 1, 3, 3, 1, 1, 337, 3, 400, 60, 1, 6};
            for (int what = 0; what < due.length; what++) {
                c.due("count(" + what + ")", x.count(what), due[what]);
            }
        });
        s.test("0: the sharpness of the point; 1: the spring; 2: the flutter of the machine", c -> {
            int[][] rows = {{100, 100, 0}, {99, 50, 0}, {50, 45, 1}, {1, 5, 9}, {0, 0, 10}};
            for (int[] row : rows) {
                WaxCopies x = Situations.atMachine(row[0], row[1]);
                for (int what = 0; what < 3; what++) {
                    c.due("count(" + what + ") at " + row[0] + ", " + row[1], x.count(what), row[what]);
                }
            }
        });
        s.test("3: tracks that are cut", c -> {
            WaxCopies x = new WaxCopies();
            for (int track = 0; track < 24; track++) {
                c.due("cut", x.count(3), track);
                x.wind();
                x.speak(track, 1);
            }
            c.due("all are cut", x.count(3), 24);
            x.shave(5);
            c.due("four are shaved", x.count(3), 20);
            x.renew(0, 60);
            c.due("four are on the old blank", x.count(3), 16);
        });
    }

    private static void countCalls(Sentences s) {
        s.test("4: spoken so far", c -> {
            WaxCopies x = Situations.spoken(0, 9);
            c.due("one", x.count(4), 1);
            x.speak(0, 9);
            x.copy(0, 4, 1);
            c.due("no refused one, no copy", x.count(4), 1);
            x.shave(0);
            x.speak(0, 9);
            Situations.type(x, "sa1=1;sa1=1");
            x.run();
            c.due("shaved and spoken anew, and one of a text", x.count(4), 3);
        });
        s.test("5: copied so far", c -> {
            WaxCopies x = Situations.spoken(0, 9);
            c.due("none", x.count(5), 0);
            x.copy(0, 4, 1);
            x.copy(0, 4, 1);
            c.due("one, and a refused one", x.count(5), 1);
            Situations.type(x, "ca0>c0*1;xc");
            x.run();
            c.due("one of a text, and shaved", x.count(5), 2);
        });
        s.test("6: plays so far", c -> {
            WaxCopies x = Situations.spoken(0, 9);
            c.due("none", x.count(6), 0);
            x.play(0);
            x.play(1);
            c.due("one, and a refused one", x.count(6), 1);
            x.shave(0);
            x.speak(0, 9);
            Situations.type(x, "pa0;pa0;pa1");
            x.run();
            c.due("two of a text, and a refused one", x.count(6), 3);
        });
    }

    private static void countLayers(Sentences s) {
        s.test("7: layers of all cylinders", c -> {
            WaxCopies x = new WaxCopies();
            c.due("at first", x.count(7), 360);
            for (int cylinder = 0; cylinder < 6; cylinder++) {
                x.renew(cylinder, 0);
            }
            c.due("none", x.count(7), 0);
            for (int cylinder = 0; cylinder < 6; cylinder++) {
                x.renew(cylinder, 100);
            }
            c.due("the most", x.count(7), 600);
            x.speak(20, 9);
            c.due("a cut takes none", x.count(7), 600);
            x.shave(5);
            c.due("shaved", x.count(7), 591);
        });
        s.test("8: layers shaved off so far", c -> {
            WaxCopies x = Situations.spoken(0, 9);
            x.shave(1);
            c.due("none", x.count(8), 0);
            x.shave(0);
            x.speak(4, 2);
            Situations.type(x, "xb;xb");
            x.run();
            c.due("9, and 2 by a text", x.count(8), 11);
            x.renew(0, 0);
            c.due("a new blank shaves none", x.count(8), 11);
        });
        s.test("9: layers that came so far, by new blanks, with the first ones (360)", c -> {
            WaxCopies x = new WaxCopies();
            c.due("the first ones", x.count(9), 360);
            x.renew(0, 0);
            c.due("with no layers", x.count(9), 360);
            x.renew(0, 100);
            x.renew(0, 1);
            c.due("with 100 and 1", x.count(9), 461);
            x.speak(4, 9);
            x.shave(1);
            c.due("shaving brings none", x.count(9), 461);
        });
        s.test("10: layers that went with old blanks so far", c -> {
            WaxCopies x = Situations.spoken(0, 9);
            x.shave(0);
            c.due("none", x.count(10), 0);
            x.renew(0, 0);
            c.due("what was left of it", x.count(10), 51);
            x.renew(0, 100);
            c.due("one without layers", x.count(10), 51);
            x.renew(0, 100);
            c.due("the most", x.count(10), 151);
            c.due("what came is there, shaved or gone", x.count(7) + x.count(8) + x.count(10), x.count(9));
        });
    }

    private static void countRefusedAndSaved(Sentences s) {
        s.test("11: what was refused so far", c -> {
            WaxCopies x = Situations.spoken(0, 9);
            c.due("none", x.count(11), 0);
            x.speak(0, 1);
            c.due("speaking", x.count(11), 1);
            x.copy(0, 0, 1);
            c.due("copying", x.count(11), 2);
            x.play(1);
            c.due("playing", x.count(11), 3);
            x.shave(1);
            c.due("shaving", x.count(11), 4);
            Situations.type(x, "pa0;pa1;pa1");
            x.run();
            c.due("the first of a text", x.count(11), 5);
            x.whyNot(0, 1);
            x.ifCopied(0, 0, 1);
            c.dueThrow("no loudness", ARGUMENT, () -> x.speak(0, 0));
            c.due("what would be, and what throws, is not", x.count(11), 5);
        });
        s.test("12: saved states", c -> {
            WaxCopies x = new WaxCopies();
            for (int states = 0; states <= 8; states++) {
                c.due("saved", x.count(12), Math.min(6, states));
                x.wind();
            }
            x.undo();
            c.due("undone", x.count(12), 5);
        });
        s.test("Returns the number.", c -> {
            WaxCopies x = new WaxCopies();
            int[] due = {100, 100, 0, 0, 0, 0, 0, 360, 0, 360, 0, 0, 0};
            for (int what = 0; what < due.length; what++) {
                c.due("count(" + what + ")", x.count(what), due[what]);
            }
        });
        s.test("Throws `IllegalArgumentException` if what is not 0 to 12", c -> {
            Situations.takes(c, 0, 12, (x, what) -> x.count(what));
            Situations.throwsOutside(c, ARGUMENT, 0, 12, (x, what) -> x.count(what));
        });
    }

    private static void setting(Sentences s) {
        s.under("Promise 20: setting");
        s.test("Returns the setting.", c -> c.due("at first", new WaxCopies().setting(), 3));
        s.test("Returns its value.", c -> {
            WaxCopies x = new WaxCopies();
            for (int value = 0; value <= 20; value++) {
                x.set(value);
                c.due("as set", x.setting(), value);
            }
            c.dueThrow("above", ARGUMENT, () -> x.set(21));
            c.due("as it was", x.setting(), 20);
        });
    }

    private static void whyNot(Sentences s) {
        s.under("Promise 21: whyNot");
        s.test("Tells why a track cannot be spoken onto.", c -> {
            WaxCopies x = Situations.spoken(0, 9);
            x.renew(1, 8);
            c.due("it can", x.whyNot(4, 8), 0);
            c.due("cut", x.whyNot(0, 9), 1);
            c.due("too few layers", x.whyNot(4, 9), 2);
            Situations.machineAt(x, 100, 10);
            c.due("just wound enough", x.whyNot(4, 8), 0);
            Situations.machineAt(x, 100, 5);
            c.due("run down", x.whyNot(4, 8), 3);
        });
        s.test("`track`: 0 to 23", c -> Situations.takes(c, 0, 23, (x, track) -> x.whyNot(track, 1)));
        s.test("`loudness`: 1 to 9", c -> Situations.takes(c, 1, 9, (x, loudness) -> x.whyNot(1, loudness)));
        s.test("Returns what speak() would return.", c -> {
            for (int spring : new int[] {0, 5, 10, 100}) {
                for (int layers : new int[] {0, 1, 5, 9}) {
                    for (int loudness = 1; loudness <= 9; loudness++) {
                        WaxCopies x = new WaxCopies();
                        x.renew(0, layers);
                        x.speak(1, 1);
                        Situations.machineAt(x, 100, spring);
                        String told = "at " + spring + ", " + layers + ", " + loudness;
                        c.due("the smooth one " + told, x.whyNot(0, loudness), x.speak(0, loudness));
                        c.due("the other one " + told, x.whyNot(1, loudness), x.speak(1, loudness));
                    }
                }
            }
        });
        s.test(NO_TRACK, c -> Situations.throwsOutside(c, INDEX, 0, 23, (x, track) -> x.whyNot(track, 1)));
        s.test("Throws `IllegalArgumentException` if loudness is out of range", c -> {
            Situations.throwsOutside(c, ARGUMENT, 1, 9, (x, loudness) -> x.whyNot(1, loudness));
            Situations.throwsOutside(c, ARGUMENT, 1, 9, (x, loudness) -> x.whyNot(0, loudness));
        });
    }

    private static void ifCopied(Sentences s) {
        s.under("Promise 22: ifCopied");
        s.test("Tells how clear a copy would be.", c -> {
            WaxCopies x = Situations.spoken(0, 9);
            Situations.machineAt(x, 90, 45);
            c.due("lever 1, bluntness 2, flutter 1", x.ifCopied(0, 4, 1), 70);
            c.due("lever 2, bluntness 2, flutter 1", x.ifCopied(0, 4, 2), 76);
            c.due("lever 3, bluntness 2, flutter 1", x.ifCopied(0, 4, 3), 78);
        });
        s.test("`mother`: 0 to 23", c -> Situations.takes(c, 0, 23, (x, mother) -> x.ifCopied(mother, 20, 1)));
        s.test("`track`: 0 to 23", c -> Situations.takes(c, 0, 23, (x, track) -> x.ifCopied(0, track, 1)));
        s.test("`lever`: 1 to 3", c -> Situations.takes(c, 1, 3, (x, lever) -> x.ifCopied(0, 20, lever)));
        s.test("Returns its clearness", c -> {
            for (int clearness : new int[] {85, 16, 5, 4, 3, 0}) {
                for (int lever = 1; lever <= 3; lever++) {
                    WaxCopies x = new WaxCopies();
                    Situations.speakAsClear(x, 0, clearness);
                    int due = Math.max(0, clearness - 12 / lever);
                    c.due("of " + clearness + " by " + lever, x.ifCopied(0, 4, lever), due);
                    x.copy(0, 4, lever);
                    c.due("copied", x.trackOf(4, 1), due);
                }
            }
        });
        s.test("0 less the reason if copy() would be refused.", c -> {
            WaxCopies x = Situations.spoken(0, 9);
            x.speak(4, 9);
            x.renew(2, 8);
            c.due("smooth", x.ifCopied(1, 5, 2), -1);
            c.due("cut", x.ifCopied(0, 4, 2), -2);
            c.due("the same cylinder", x.ifCopied(0, 1, 2), -3);
            c.due("too few layers", x.ifCopied(0, 8, 2), -4);
            Situations.machineAt(x, 100, 15);
            c.due("run down", x.ifCopied(0, 5, 2), -5);
            Situations.machineAt(x, 100, 20);
            c.due("just wound enough", x.ifCopied(0, 5, 2), 73);
        });
        s.test(NO_TRACK, c -> {
            Situations.throwsOutside(c, INDEX, 0, 23, (x, mother) -> x.ifCopied(mother, 20, 1));
            Situations.throwsOutside(c, INDEX, 0, 23, (x, track) -> x.ifCopied(0, track, 1));
            Situations.throwsOutside(c, INDEX, 0, 23, (x, track) -> x.ifCopied(1, track, 1));
        });
        s.test("Throws `IllegalArgumentException` if lever is out of range", c -> {
            Situations.throwsOutside(c, ARGUMENT, 1, 3, (x, lever) -> x.ifCopied(0, 20, lever));
            Situations.throwsOutside(c, ARGUMENT, 1, 3, (x, lever) -> x.ifCopied(1, 1, lever));
        });
    }
}
