/** The tests named by sentences of "What it is" and of the terms up to the settings. */
final class TermSentences {
    private TermSentences() {
    }

    static void all(Sentences s) {
        whatItIs(s);
        numbers(s);
        cylinders(s);
        tracks(s);
        point(s);
        spring(s);
        speakingRefused(s);
        speakingCuts(s);
        copyingRefused(s);
        copyingRefusedFor(s);
        copyingCuts(s);
        playing(s);
        shaving(s);
        settings(s);
    }

    private static void whatItIs(Sentences s) {
        s.under("What it is");
        s.test("An object is used for at most 512 calls after it has been made", c -> {
            WaxCopies x = new WaxCopies();
            for (int call = 1; call <= 509; call++) {
                x.renew(5, 100);
            }
            c.due("call 510: count(9)", x.count(9), 360 + 100 * 509);
            c.due("call 511: count(10)", x.count(10), 60 + 100 * 508);
            c.due("call 512: undo", x.undo(), 5);
        });
    }

    private static void numbers(Sentences s) {
        s.under("Terms");
        s.test("All numbers are integers, but for a share", c -> {
            WaxCopies x = Situations.spoken(0, 9);
            x.speak(1, 4);
            c.dueShare("mean of 9 and 4", x.meanDepth(), 6.5f);
            c.dueShare("share of 85 and 58", x.clearShare(), 0.715);
        });
        s.test("divisions are rounded down", c -> {
            WaxCopies x = Situations.spoken(0, 5);
            x.copy(0, 4, 1);
            c.due("depth 5 / 2", x.trackOf(4, 0), 2);
            x.copy(0, 8, 3);
            c.due("depth 15 / 2", x.trackOf(8, 0), 7);
            WaxCopies y = Situations.atMachine(93, 100);
            y.speak(0, 1);
            c.due("clearness 45 less 7 / 4", y.trackOf(0, 1), 44);
        });
    }

    private static void cylinders(Sentences s) {
        s.under("Cylinders, tracks");
        s.test("There are 6 cylinders, numbered from 0", c -> {
            WaxCopies x = new WaxCopies();
            c.due("the first", x.cylinderOf(0, 0), 60);
            c.due("the last", x.cylinderOf(5, 0), 60);
            c.due("layers of all", x.count(7), 6 * 60);
            c.dueThrow("before the first", Situations.INDEX, () -> x.cylinderOf(-1, 0));
            c.dueThrow("behind the last", Situations.INDEX, () -> x.cylinderOf(6, 0));
        });
        s.test("each with layers of wax, 0 to 100, at first 60", c -> {
            WaxCopies x = new WaxCopies();
            for (int cylinder = 0; cylinder < 6; cylinder++) {
                c.due("at first " + cylinder, x.cylinderOf(cylinder, 0), 60);
                x.renew(cylinder, 100);
                c.due("most " + cylinder, x.cylinderOf(cylinder, 0), 100);
                x.renew(cylinder, 0);
                c.due("least " + cylinder, x.cylinderOf(cylinder, 0), 0);
            }
            x.renew(0, 1);
            x.speak(0, 1);
            x.shave(0);
            c.due("shaved to none", x.cylinderOf(0, 0), 0);
        });
        s.test("and 4 tracks each", c -> {
            for (int cylinder = 0; cylinder < 6; cylinder++) {
                WaxCopies x = new WaxCopies();
                Situations.useUp(x, cylinder, 1, 2, 3, 4);
                c.due("cut on " + cylinder, x.cylinderOf(cylinder, 1), 4);
                c.due("cut in all", x.count(3), 4);
            }
        });
        s.test("the track t, 0 to 23, is on the cylinder t / 4", c -> {
            for (int track = 0; track < 24; track++) {
                WaxCopies x = Situations.spoken(track, 1);
                for (int cylinder = 0; cylinder < 6; cylinder++) {
                    int due = track >= 4 * cylinder && track <= 4 * cylinder + 3 ? 1 : 0;
                    c.due(track + " on " + cylinder, x.cylinderOf(cylinder, 1), due);
                }
            }
            WaxCopies x = new WaxCopies();
            c.dueThrow("before the first", Situations.INDEX, () -> x.trackOf(-1, 0));
            c.dueThrow("behind the last", Situations.INDEX, () -> x.trackOf(24, 0));
        });
    }

    private static void tracks(Sentences s) {
        s.test("A track is smooth, as at first, or cut", c -> {
            for (int track = 0; track < 24; track++) {
                WaxCopies x = new WaxCopies();
                c.due("smooth at first " + track, x.trackOf(track, 0), 0);
                x.speak(track, 1);
                c.due("cut " + track, x.trackOf(track, 0), 1);
                c.due("cut " + track + ", in all", x.count(3), 1);
            }
        });
        s.test("it has a depth, 1 to 9", c -> {
            WaxCopies x = Situations.spoken(0, 1);
            x.speak(1, 9);
            c.due("least, spoken", x.trackOf(0, 0), 1);
            c.due("most, spoken", x.trackOf(1, 0), 9);
            x.copy(0, 4, 1);
            x.copy(1, 5, 3);
            c.due("least, copied", x.trackOf(4, 0), 1);
            c.due("most, copied", x.trackOf(5, 0), 9);
        });
        s.test("a clearness, 0 to 100", c -> {
            WaxCopies x = Situations.spoken(0, 9);
            c.due("the clearest that can be", x.trackOf(0, 1), 85);
            x.set(20);
            for (int due : new int[] {65, 45, 25, 5, 0, 0}) {
                x.play(0);
                c.due("worn", x.trackOf(0, 1), due);
            }
            x.wind();
            x.copy(0, 4, 1);
            c.due("copy of 0", x.trackOf(4, 1), 0);
        });
        s.test("a flutter, 0 to 20", c -> {
            WaxCopies x = Situations.atMachine(100, 10);
            x.speak(0, 9);
            int[] due = {8, 14, 20, 20};
            for (int i = 0; i < due.length; i++) {
                c.due("track " + 4 * i, x.trackOf(4 * i, 2), due[i]);
                Situations.machineAt(x, 100, 20);
                x.copy(4 * i, 4 * i + 4, 2);
            }
            x.wind();
            x.speak(1, 9);
            c.due("wound up", x.trackOf(1, 2), 0);
        });
        s.test("a generation (0 if it was spoken, otherwise 1 more than that of its mother)", c -> {
            WaxCopies x = Situations.spoken(0, 9);
            c.due("spoken", x.trackOf(0, 3), 0);
            for (int track = 4; track < 24; track += 4) {
                x.wind();
                x.copy(track - 4, track, 2);
                c.due("copied onto " + track, x.trackOf(track, 3), track / 4);
            }
            x.shave(2);
            x.wind();
            x.speak(8, 1);
            c.due("spoken where a copy was", x.trackOf(8, 3), 0);
        });
        s.test("and the number of its mother, if it is a copy", c -> {
            WaxCopies x = Situations.spoken(0, 9);
            x.speak(23, 9);
            c.due("no copy", x.trackOf(0, 4), -1);
            x.copy(0, 4, 2);
            c.due("copy of the first", x.trackOf(4, 4), 0);
            x.copy(23, 5, 2);
            c.due("copy of the last", x.trackOf(5, 4), 23);
            x.shave(1);
            x.speak(4, 1);
            c.due("spoken where a copy was", x.trackOf(4, 4), -1);
        });
    }

    private static void point(Sentences s) {
        s.under("The point, the spring");
        s.test("The point has a sharpness, 0 to 100, at first 100", c -> {
            WaxCopies x = new WaxCopies();
            c.due("at first", x.count(0), 100);
            x.sharpen();
            c.due("not above", x.count(0), 100);
            Situations.machineAt(x, 0, 100);
            c.due("at the least", x.count(0), 0);
            x.sharpen();
            c.due("at the most", x.count(0), 100);
        });
        s.test("each cut makes it less by its depth, but at least 0", c -> {
            for (int loudness = 1; loudness <= 9; loudness++) {
                c.due("less by " + loudness, Situations.spoken(0, loudness).count(0), 100 - loudness);
            }
            int[][] rows = {{10, 9, 1}, {9, 9, 0}, {8, 9, 0}, {1, 9, 0}, {1, 1, 0}, {0, 1, 0}, {0, 9, 0}};
            for (int[] row : rows) {
                WaxCopies x = Situations.atMachine(row[0], 100);
                x.speak(0, row[1]);
                c.due(row[0] + " less " + row[1], x.count(0), row[2]);
            }
            WaxCopies x = Situations.spoken(0, 9);
            x.copy(0, 4, 1);
            c.due("91, less the depth 4 of the copy", x.count(0), 87);
            Situations.machineAt(x, 3, 100);
            x.copy(0, 8, 1);
            c.due("3, less the depth 4 of the copy", x.count(0), 0);
            WaxCopies refused = Situations.spoken(0, 9);
            refused.speak(0, 9);
            refused.copy(0, 1, 1);
            refused.play(0);
            c.due("no cut, nothing less", refused.count(0), 91);
        });
        s.test("The bluntness of the point is (100 less its sharpness), divided by 4", c -> {
            int[][] rows = {{100, 0}, {97, 0}, {96, 1}, {93, 1}, {92, 2}, {50, 12}, {4, 24}, {1, 24}, {0, 25}};
            for (int[] row : rows) {
                WaxCopies x = Situations.atMachine(row[0], 100);
                x.speak(0, 9);
                c.due("spoken at " + row[0], x.trackOf(0, 1), 85 - row[1]);
                x.shave(0);
                Situations.speakAsClear(x, 0, 80);
                Situations.machineAt(x, row[0], 100);
                c.due("if copied at " + row[0], x.ifCopied(0, 4, 2), 74 - row[1]);
            }
        });
    }

    private static void spring(Sentences s) {
        s.test("The spring is wound, 0 to 100, at first 100", c -> {
            WaxCopies x = new WaxCopies();
            c.due("at first", x.count(1), 100);
            x.wind();
            c.due("not above", x.count(1), 100);
            x.speak(0, 1);
            Situations.machineAt(x, 100, 0);
            x.speak(1, 1);
            x.copy(0, 4, 1);
            x.play(0);
            c.due("not below 0", x.count(1), 0);
            x.wind();
            c.due("at the most", x.count(1), 100);
        });
        s.test("speaking makes it less by 10, playing by 5, copying by 20", c -> {
            WaxCopies x = new WaxCopies();
            x.speak(0, 9);
            c.due("spoken", x.count(1), 90);
            x.play(0);
            c.due("played", x.count(1), 85);
            x.copy(0, 4, 3);
            c.due("copied", x.count(1), 65);
            Situations.machineAt(x, 100, 10);
            x.speak(1, 1);
            c.due("spoken to the end", x.count(1), 0);
            Situations.machineAt(x, 100, 5);
            x.play(1);
            c.due("played to the end", x.count(1), 0);
            Situations.machineAt(x, 100, 20);
            x.copy(1, 5, 1);
            c.due("copied to the end", x.count(1), 0);
            Situations.machineAt(x, 100, 50);
            x.speak(0, 1);
            x.copy(0, 4, 1);
            x.play(2);
            c.due("what is refused takes nothing", x.count(1), 50);
        });
        s.test("The flutter of the machine is 0 if the spring is at 50 or above, otherwise (50 less the spring), divided by 5", c -> {
            int[][] rows = {{100, 0}, {55, 0}, {50, 0}, {45, 1}, {40, 2}, {5, 9}, {0, 10}};
            for (int[] row : rows) {
                c.due("at " + row[0], Situations.atMachine(100, row[0]).count(2), row[1]);
            }
        });
    }

    private static void speakingRefused(Sentences s) {
        s.under("Speaking, copying");
        s.test("To speak onto a track, with a loudness of 1 to 9, is refused for the first of these reasons that is so", c -> {
            WaxCopies x = new WaxCopies();
            x.renew(0, 3);
            x.speak(0, 3);
            c.due("1 and 2", x.speak(0, 4), 1);
            Situations.machineAt(x, 100, 5);
            c.due("1, 2 and 3", x.speak(0, 4), 1);
            c.due("1 and 3", x.speak(0, 3), 1);
            c.due("2 and 3", x.speak(1, 4), 2);
            c.due("3", x.speak(1, 3), 3);
            c.due("what was refused", x.count(11), 5);
        });
        s.test("1: the track is cut", c -> {
            WaxCopies x = Situations.spoken(5, 4);
            c.due("cut", x.speak(5, 4), 1);
            c.due("beside it", x.speak(6, 4), 0);
            x.shave(1);
            c.due("smooth again", x.speak(5, 4), 0);
            x.copy(5, 9, 2);
            c.due("a copy", x.speak(9, 1), 1);
        });
        s.test("2: its cylinder has fewer layers than the loudness", c -> {
            for (int loudness = 1; loudness <= 9; loudness++) {
                WaxCopies x = new WaxCopies();
                x.renew(2, loudness - 1);
                c.due("one fewer than " + loudness, x.speak(11, loudness), 2);
                c.due("the next cylinder", x.speak(12, loudness), 0);
                x.renew(2, loudness);
                c.due("just " + loudness, x.speak(11, loudness), 0);
            }
        });
        s.test("3: the spring is below 10", c -> {
            c.due("at 0", Situations.atMachine(100, 0).speak(0, 1), 3);
            c.due("at 5", Situations.atMachine(100, 5).speak(0, 1), 3);
            c.due("at 10", Situations.atMachine(100, 10).speak(0, 1), 0);
        });
    }

    private static void speakingCuts(Sentences s) {
        s.test("Otherwise it is cut: its depth is the loudness", c -> {
            for (int loudness = 1; loudness <= 9; loudness++) {
                c.due("depth of " + loudness, Situations.spoken(7, loudness).trackOf(7, 0), loudness);
            }
        });
        s.test("its clearness is 40 and 5 times the loudness, together, less the bluntness", c -> {
            for (int loudness = 1; loudness <= 9; loudness++) {
                c.due("clearness of " + loudness, Situations.spoken(7, loudness).trackOf(7, 1), 40 + 5 * loudness);
                WaxCopies x = Situations.atMachine(0, 100);
                x.speak(7, loudness);
                c.due("with the bluntness 25", x.trackOf(7, 1), 15 + 5 * loudness);
            }
        });
        s.test("and its flutter is that of the machine, all as they are ahead of it", c -> {
            int[][] rows = {{55, 0}, {50, 0}, {45, 1}, {10, 8}};
            for (int[] row : rows) {
                WaxCopies x = Situations.atMachine(97, row[0]);
                x.speak(0, 9);
                c.due("flutter as of " + row[0], x.trackOf(0, 2), row[1]);
                c.due("clearness as of 97", x.trackOf(0, 1), 85);
            }
        });
    }

    private static void copyingRefused(Sentences s) {
        s.test("To copy a track (the mother) onto another one, with a lever of 1 to 3, "
            + "is refused for the first of these reasons that is so", c -> {
            WaxCopies x = new WaxCopies();
            x.renew(0, 4);
            x.speak(0, 4);
            x.renew(1, 1);
            x.speak(4, 1);
            c.due("1, 2 and 3", x.copy(1, 0, 3), 1);
            c.due("1 and 2", x.copy(1, 4, 3), 1);
            c.due("1 and 3, the same track", x.copy(1, 1, 3), 1);
            c.due("2, 3 and 4, the same track", x.copy(0, 0, 3), 2);
            c.due("2 and 4", x.copy(0, 4, 3), 2);
            c.due("3 and 4", x.copy(0, 1, 3), 3);
            Situations.machineAt(x, 100, 15);
            c.due("1 and 5", x.copy(1, 8, 3), 1);
            c.due("2, 4 and 5", x.copy(0, 4, 3), 2);
            c.due("3, 4 and 5", x.copy(0, 1, 3), 3);
            c.due("3 and 5", x.copy(0, 1, 2), 3);
            c.due("4 and 5", x.copy(0, 5, 3), 4);
            c.due("5", x.copy(0, 8, 3), 5);
            c.due("what was refused", x.count(11), 12);
        });
        s.test("1: the mother is smooth", c -> {
            WaxCopies x = Situations.spoken(0, 9);
            c.due("smooth", x.copy(1, 4, 1), 1);
            c.due("cut", x.copy(0, 4, 1), 0);
            x.shave(0);
            c.due("smooth again", x.copy(0, 8, 1), 1);
            c.due("a copy", x.copy(4, 8, 1), 0);
        });
        s.test("2: the other track is cut", c -> {
            WaxCopies x = Situations.spoken(0, 9);
            x.speak(5, 1);
            c.due("cut", x.copy(0, 5, 1), 2);
            c.due("smooth", x.copy(0, 6, 1), 0);
            c.due("a copy", x.copy(0, 6, 1), 2);
        });
        s.test("3: both are on the same cylinder", c -> {
            int[][] rows = {{0, 1, 3}, {0, 3, 3}, {0, 4, 0}, {3, 0, 3}, {3, 4, 0}, {4, 3, 0}, {4, 7, 3}, {7, 8, 0},
                {19, 20, 0}, {20, 19, 0}, {20, 23, 3}, {23, 20, 3}};
            for (int[] row : rows) {
                c.due(row[0] + " onto " + row[1], Situations.spoken(row[0], 9).copy(row[0], row[1], 2), row[2]);
            }
        });
        s.test("5: the spring is below 20", c -> {
            int[][] rows = {{0, 5}, {15, 5}, {20, 0}, {25, 0}};
            for (int[] row : rows) {
                WaxCopies x = Situations.spoken(0, 9);
                Situations.machineAt(x, 100, row[0]);
                c.due("at " + row[0], x.copy(0, 4, 1), row[1]);
            }
        });
    }

    /** The depth by the mother's depth, then by the lever. */
    private static final int[][] DEPTHS = {{1, 1, 1}, {1, 2, 3}, {1, 3, 4}, {2, 4, 6}, {2, 5, 7}, {3, 6, 9}, {3, 7, 9},
        {4, 8, 9}, {4, 9, 9}};

    private static void copyingRefusedFor(Sentences s) {
        s.test("4: the cylinder of the other one has fewer layers than the depth tells", c -> {
            for (int depth = 1; depth <= 9; depth++) {
                for (int lever = 1; lever <= 3; lever++) {
                    int due = DEPTHS[depth - 1][lever - 1];
                    WaxCopies x = Situations.spoken(0, depth);
                    x.renew(1, due - 1);
                    c.due(depth + " by " + lever + ", one layer too few", x.copy(0, 4, lever), 4);
                    x.renew(1, due);
                    c.due(depth + " by " + lever + ", just the layers", x.copy(0, 4, lever), 0);
                }
            }
            WaxCopies x = new WaxCopies();
            x.renew(0, 9);
            x.speak(0, 9);
            x.renew(0, 0);
            x.speak(8, 1);
            c.due("the layers of the other one", x.copy(8, 0, 1), 4);
            c.due("not those of the mother", x.copy(8, 20, 1), 0);
        });
        s.test("which is the depth of the mother times the lever, divided by 2, but from 1 to 9", c -> {
            for (int depth = 1; depth <= 9; depth++) {
                for (int lever = 1; lever <= 3; lever++) {
                    WaxCopies x = Situations.spoken(0, depth);
                    x.copy(0, 4, lever);
                    c.due(depth + " by " + lever, x.trackOf(4, 0), DEPTHS[depth - 1][lever - 1]);
                }
            }
        });
    }

    private static void copyingCuts(Sentences s) {
        s.test("Otherwise it is cut: with this depth", c -> {
            WaxCopies x = Situations.spoken(0, 5);
            c.due("copied", x.copy(0, 4, 3), 0);
            c.due("its depth", x.trackOf(4, 0), 7);
            c.due("the depth of its mother stays", x.trackOf(0, 0), 5);
            x.shave(1);
            c.due("layers under it", x.cylinderOf(1, 0), 53);
        });
        s.test("its clearness is that of the mother, less (12, divided by the lever), less the bluntness, "
            + "less the flutter of the machine, but at least 0", c -> {
            // the mother's clearness, the lever, the sharpness, the spring, the clearness that is due
            int[][] rows = {{80, 1, 100, 100, 68}, {80, 2, 100, 100, 74}, {80, 3, 100, 100, 76}, {80, 1, 96, 45, 66},
                {80, 3, 0, 20, 45}, {13, 1, 100, 100, 1}, {12, 1, 100, 100, 0}, {11, 1, 100, 100, 0}, {7, 2, 100, 100, 1},
                {6, 2, 100, 100, 0}, {5, 2, 100, 100, 0}, {5, 3, 100, 100, 1}, {4, 3, 100, 100, 0}, {3, 3, 100, 100, 0},
                {0, 3, 100, 100, 0}, {36, 3, 0, 20, 1}, {35, 3, 0, 20, 0}, {34, 3, 0, 20, 0}, {0, 1, 0, 20, 0}};
            for (int[] row : rows) {
                WaxCopies x = new WaxCopies();
                Situations.speakAsClear(x, 0, row[0]);
                c.due("the mother", x.trackOf(0, 1), row[0]);
                Situations.machineAt(x, row[2], row[3]);
                c.due("copied", x.copy(0, 4, row[1]), 0);
                c.due(row[0] + " by " + row[1] + " at " + row[2] + ", " + row[3], x.trackOf(4, 1), row[4]);
            }
        });
        s.test("its flutter is that of the mother and that of the machine, together, but at most 20", c -> {
            // the spring of the mother's copying, the spring of the last one, the flutter that is due
            int[][] rows = {{100, 100, 14}, {100, 20, 20}, {25, 50, 19}, {25, 45, 20}, {25, 40, 20}, {25, 20, 20}, {20, 55, 20}};
            for (int[] row : rows) {
                WaxCopies x = Situations.atMachine(100, 10);
                x.speak(0, 9);
                Situations.machineAt(x, 100, 20);
                x.copy(0, 4, 2);
                c.due("8 and 6", x.trackOf(4, 2), 14);
                Situations.machineAt(x, 100, row[0]);
                x.copy(4, 8, 2);
                Situations.machineAt(x, 100, row[1]);
                x.copy(8, 12, 2);
                c.due("14, at " + row[0] + ", at " + row[1], x.trackOf(12, 2), row[2]);
            }
        });
        s.test("but at most 20; all as they are ahead of it", c -> {
            WaxCopies x = Situations.spoken(0, 9);
            Situations.machineAt(x, 97, 50);
            x.copy(0, 4, 3);
            c.due("flutter as of 50", x.trackOf(4, 2), 0);
            c.due("clearness as of 97 and 50", x.trackOf(4, 1), 81);
            c.due("the spring after it", x.count(1), 30);
            c.due("the point after it", x.count(0), 88);
        });
    }

    private static void playing(Sentences s) {
        s.under("Playing, shaving");
        s.test("To play a track is refused for the first of these reasons that is so", c -> {
            WaxCopies x = Situations.spoken(0, 1);
            Situations.machineAt(x, 100, 0);
            c.due("1 and 2", x.play(1), 1);
            c.due("2", x.play(0), 2);
            x.wind();
            c.due("1", x.play(1), 1);
            c.due("none", x.play(0), 52);
        });
        s.test("1: it is smooth", c -> {
            WaxCopies x = new WaxCopies();
            c.due("smooth", x.play(3), 1);
            x.speak(3, 9);
            c.due("cut", x.play(3), 92);
            x.shave(0);
            c.due("smooth again", x.play(3), 1);
        });
        s.test("2: the spring is below 5", c -> {
            WaxCopies x = Situations.spoken(0, 1);
            Situations.machineAt(x, 100, 5);
            c.due("at 5", x.play(0), 52);
            c.due("at 0", x.play(0), 2);
        });
        s.test("Otherwise its clearness becomes less by setting 0, but at least 0", c -> {
            int[][] rows = {{21, 20, 1}, {20, 20, 0}, {19, 20, 0}, {4, 3, 1}, {3, 3, 0}, {2, 3, 0}, {0, 3, 0}, {0, 0, 0},
                {1, 0, 1}, {85, 1, 84}};
            for (int[] row : rows) {
                WaxCopies x = new WaxCopies();
                Situations.speakAsClear(x, 0, row[0]);
                x.set(row[1]);
                c.due(row[0] + " worn by " + row[1], x.play(0), 10 + row[2]);
                c.due("its clearness then", x.trackOf(0, 1), row[2]);
            }
        });
    }

    private static void shaving(Sentences s) {
        s.test("To shave a cylinder takes off as many layers as the greatest depth of its tracks tells", c -> {
            for (int deepest = 0; deepest < 4; deepest++) {
                WaxCopies x = new WaxCopies();
                int[] depths = {2, 2, 2, 2};
                depths[deepest] = 7;
                Situations.useUp(x, 3, depths);
                c.due("the deepest is the track " + deepest, x.shave(3), 7);
                c.due("layers", x.cylinderOf(3, 0), 53);
                c.due("layers of all", x.count(7), 353);
            }
        });
        s.test("then all its tracks are smooth", c -> {
            WaxCopies x = Situations.spoken(7, 5);
            x.speak(12, 5);
            Situations.useUp(x, 2, 1, 2, 3, 4);
            x.shave(2);
            for (int track = 8; track < 12; track++) {
                c.due("smooth " + track, x.trackOf(track, 0), 0);
            }
            c.due("the one ahead stays", x.trackOf(7, 0), 5);
            c.due("the one behind stays", x.trackOf(12, 0), 5);
        });
        s.test("(copies of them keep the number of their mother, and their generation)", c -> {
            WaxCopies x = Situations.spoken(0, 9);
            x.copy(0, 4, 2);
            x.copy(4, 8, 2);
            x.shave(0);
            x.shave(1);
            c.due("mother", x.trackOf(8, 4), 4);
            c.due("generation", x.trackOf(8, 3), 2);
            x.wind();
            x.copy(8, 12, 2);
            c.due("generation of its copy", x.trackOf(12, 3), 3);
        });
        s.test("It is refused if all its tracks are smooth.", c -> {
            WaxCopies x = Situations.spoken(3, 9);
            x.speak(8, 9);
            c.due("others are cut", x.shave(1), -1);
            c.due("layers", x.cylinderOf(1, 0), 60);
            c.due("what was refused", x.count(11), 1);
            for (int track = 4; track < 8; track++) {
                WaxCopies one = Situations.spoken(track, 1);
                c.due("one is cut", one.shave(1), 1);
                c.due("smooth by shaving", one.shave(1), -1);
            }
        });
        s.test("(Its layers are never fewer than the greatest depth of its tracks.)", c -> {
            WaxCopies x = new WaxCopies();
            x.renew(0, 9);
            Situations.useUp(x, 0, 9, 9, 5);
            c.due("9 of 9", x.shave(0), 9);
            c.due("none is left", x.cylinderOf(0, 0), 0);
            c.due("nothing can be cut", x.speak(0, 1), 2);
        });
    }

    private static void settings(Sentences s) {
        s.under("Settings");
        s.test("0: how much a play wears, 0 to 20, at first 3.", c -> {
            WaxCopies x = Situations.spoken(0, 9);
            c.due("at first", x.setting(), 3);
            x.play(0);
            c.due("worn by 3", x.trackOf(0, 1), 82);
            x.set(0);
            x.play(0);
            c.due("worn by the least", x.trackOf(0, 1), 82);
            x.set(20);
            x.play(0);
            c.due("worn by the most", x.trackOf(0, 1), 62);
            c.dueThrow("below", Situations.ARGUMENT, () -> x.set(-1));
            c.dueThrow("above", Situations.ARGUMENT, () -> x.set(21));
        });
    }
}
