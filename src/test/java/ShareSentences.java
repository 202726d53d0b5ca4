import java.math.BigInteger;
import java.util.List;
import java.util.function.Supplier;

/** The tests named by sentences of the promises 23 to 28: chains, the clearest, daughters, shares, the digest. */
final class ShareSentences {
    private static final Class<IndexOutOfBoundsException> INDEX = Situations.INDEX;
    private static final Class<IllegalArgumentException> ARGUMENT = Situations.ARGUMENT;

    private static final String NO_TRACK = "Throws `IndexOutOfBoundsException` if there is no such track";

    private ShareSentences() {
    }

    static void all(Sentences s) {
        chain(s);
        chainMachine(s);
        chainReturns(s);
        clearest(s);
        daughters(s);
        daughtersNow(s);
        meanDepth(s);
        clearShare(s);
        digest(s);
        digestValues(s);
        digestShares(s);
    }

    /** The track 0 is copied for real, by each row of levers, with the spring wound up and a new blank ahead of each. */
    private static int clearestByDoing(Supplier<WaxCopies> made, int copies) {
        int rows = 1;
        for (int i = 0; i < copies; i++) {
            rows *= 3;
        }
        int best = -1;
        for (int row = 0; row < rows; row++) {
            WaxCopies x = made.get();
            int mother = 0;
            int rest = row;
            for (int i = 0; i < copies; i++) {
                int track = 4 + 4 * (i % 2);
                x.wind();
                x.renew(track / 4, 100);
                x.copy(mother, track, 1 + rest % 3);
                mother = track;
                rest /= 3;
            }
            best = Math.max(best, x.trackOf(mother, 1));
        }
        return best;
    }

    private static void chains(Checks c, String what, Supplier<WaxCopies> made) {
        for (int copies = 1; copies <= 5; copies++) {
            int due = clearestByDoing(made, copies);
            c.due(what + ", " + copies + " by steps", made.get().chain(0, copies, 0), due);
            c.due(what + ", " + copies + " by all levers", made.get().chain(0, copies, 1), due);
        }
    }

    private static void chains(Checks c, String what, WaxCopies x, int... due) {
        for (int copies = 1; copies <= due.length; copies++) {
            c.due(what + ", " + copies + " by steps", x.chain(0, copies, 0), due[copies - 1]);
            c.due(what + ", " + copies + " by all levers", x.chain(0, copies, 1), due[copies - 1]);
        }
    }

    private static void chain(Sentences s) {
        s.under("Promise 23: chain");
        s.test("Tells how clear a copy of copies of a track could be at most", c -> {
            for (int depth = 1; depth <= 9; depth++) {
                int loudness = depth;
                chains(c, "depth " + depth, () -> Situations.spoken(0, loudness));
            }
            WaxCopies x = Situations.spoken(0, 2);
            x.sharpen();
            // the lever 3 alone ends at 21, as its deep cuts dull the point; with the lever 2 first it is 22
            chains(c, "not by the lever that loses least", x, 46, 42, 37, 30, 22);
        });
        s.test("if copy after copy was made, each of the one before it", c -> {
            WaxCopies x = Situations.spoken(0, 9);
            // 4 for the lever each, and the bluntness 2, 4, 6, 9, 11
            chains(c, "one after the other", x, 79, 71, 61, 48, 33);
            x.set(20);
            x.play(0);
            chains(c, "of a worn one", x, 59, 51, 41, 28, 13);
        });
        s.test("and smooth tracks and layers without end.", c -> {
            WaxCopies x = new WaxCopies();
            for (int track = 0; track < 24; track++) {
                x.wind();
                x.speak(track, track == 0 ? 9 : 1);
            }
            x.sharpen();
            WaxCopies y = Situations.spoken(0, 9);
            y.sharpen();
            WaxCopies z = Situations.spoken(0, 9);
            z.sharpen();
            for (int cylinder = 1; cylinder < 6; cylinder++) {
                z.renew(cylinder, 0);
            }
            for (int copies = 1; copies <= 5; copies++) {
                int due = y.chain(0, copies, 0);
                c.due("all are cut, " + copies, x.chain(0, copies, 0), due);
                c.due("all are cut, " + copies + ", by all levers", x.chain(0, copies, 1), due);
                c.due("no layers, " + copies, z.chain(0, copies, 0), due);
                c.due("no layers, " + copies + ", by all levers", z.chain(0, copies, 1), due);
            }
        });
    }

    private static void chainMachine(Sentences s) {
        s.test("with the spring wound up ahead of each", c -> {
            for (int spring : new int[] {0, 15, 20, 45, 50, 100}) {
                WaxCopies x = Situations.spoken(0, 9);
                Situations.machineAt(x, 91, spring);
                chains(c, "at " + spring, x, 79, 71, 61, 48, 33);
            }
        });
        s.test("the point getting blunter by each as the depths tell", c -> {
            for (int sharpness : new int[] {100, 99, 37, 9, 8, 1, 0}) {
                for (int loudness : new int[] {1, 2, 5, 9}) {
                    chains(c, "depth " + loudness + " at " + sharpness, () -> {
                        WaxCopies x = Situations.spoken(0, loudness);
                        Situations.machineAt(x, sharpness, 100);
                        return x;
                    });
                }
            }
            WaxCopies x = Situations.spoken(0, 9);
            Situations.machineAt(x, 0, 100);
            chains(c, "as blunt as can be, 29 for each", x, 56, 27, 0, 0, 0);
        });
        s.test("0: told step by step, by the best clearness for each depth and each sharpness", c -> {
            WaxCopies x = Situations.spoken(0, 3);
            x.sharpen();
            for (int copies = 1; copies <= 5; copies++) {
                c.due("of 3, " + copies, x.chain(0, copies, 0), clearestByDoing(() -> {
                    WaxCopies y = Situations.spoken(0, 3);
                    y.sharpen();
                    return y;
                }, copies));
            }
            c.due("asked again", x.chain(0, 5, 0), x.chain(0, 5, 0));
            oneAskingLeavesNothingToTheNext(c);
        });
        s.test("1: told by trying all levers", c -> {
            WaxCopies x = Situations.spoken(0, 4);
            for (int copies = 1; copies <= 5; copies++) {
                c.due("of 4, " + copies, x.chain(0, copies, 1), clearestByDoing(() -> Situations.spoken(0, 4), copies));
            }
        });
    }

    /** A clear, deep track is asked for ahead of a dull one, which is asked for at each sharpness that copies of the first one have. */
    private static void oneAskingLeavesNothingToTheNext(Checks c) {
        for (int sharpness = 99; sharpness >= 55; sharpness--) {
            for (int copies = 1; copies <= 5; copies++) {
                WaxCopies x = Situations.spoken(0, 9);
                Situations.speakAsClear(x, 1, 30);
                x.chain(0, 5, 0);
                x.chain(0, copies, 0);
                Situations.machineAt(x, sharpness, 100);
                int due = x.chain(1, copies, 1);
                c.due("at " + sharpness + ", " + copies, x.chain(1, copies, 0), due);
            }
        }
    }

    private static void chainReturns(Sentences s) {
        s.test("`track`: 0 to 23", c -> Situations.takes(c, 0, 23, (x, track) -> x.chain(track, 1, 0)));
        s.test("`copies`: 1 to 5", c -> Situations.takes(c, 1, 5, (x, copies) -> x.chain(0, copies, 0)));
        s.test("Returns the clearness of the last copy at most (the same for both)", c -> {
            WaxCopies x = Situations.used();
            for (int track : new int[] {0, 4, 9}) {
                for (int copies = 1; copies <= 5; copies++) {
                    c.due(track + ", " + copies, x.chain(track, copies, 0), x.chain(track, copies, 1));
                }
            }
            int[][] rows = {{5, 1}, {4, 0}, {3, 0}, {0, 0}};
            for (int[] row : rows) {
                WaxCopies y = new WaxCopies();
                Situations.speakAsClear(y, 0, row[0]);
                chains(c, "of " + row[0] + ", at least 0", y, row[1], 0, 0, 0, 0);
            }
        });
        s.test("NONE if the track is smooth.", c -> {
            WaxCopies x = Situations.used();
            for (int track : new int[] {1, 8, 23}) {
                for (int copies = 1; copies <= 5; copies++) {
                    c.due(track + ", " + copies, x.chain(track, copies, 0), WaxCopies.NONE);
                    c.due(track + ", " + copies + ", by all levers", x.chain(track, copies, 1), WaxCopies.NONE);
                }
            }
        });
        s.test(NO_TRACK, c -> {
            Situations.throwsOutside(c, INDEX, 0, 23, (x, track) -> x.chain(track, 1, 0));
            Situations.throwsOutside(c, INDEX, 0, 23, (x, track) -> x.chain(track, 5, 1));
        });
        s.test("Throws `IllegalArgumentException` if copies or what is out of range", c -> {
            for (int track = 0; track < 2; track++) {
                int at = track;
                Situations.throwsOutside(c, ARGUMENT, 1, 5, (x, copies) -> x.chain(at, copies, 0));
                Situations.throwsOutside(c, ARGUMENT, 1, 5, (x, copies) -> x.chain(at, copies, 1));
                Situations.takes(c, 0, 1, (x, what) -> x.chain(at, 1, what));
                Situations.throwsOutside(c, ARGUMENT, 0, 1, (x, what) -> x.chain(at, 1, what));
            }
        });
    }

    private static void clearest(Sentences s) {
        s.under("Promise 24: clearest");
        s.test("Finds the clearest track.", c -> {
            for (int track = 0; track < 24; track++) {
                WaxCopies x = new WaxCopies();
                x.speak((track + 1) % 24, 7);
                x.speak((track + 23) % 24, 7);
                x.sharpen();
                x.speak(track, 8);
                c.due("clearer than those beside it", x.clearest(), track);
            }
        });
        s.test("Returns the track with the greatest clearness", c -> {
            WaxCopies x = Situations.atMachine(100, 10);
            x.speak(9, 9);
            Situations.machineAt(x, 99, 100);
            x.speak(2, 8);
            x.speak(20, 8);
            c.due("though it flutters most", x.clearest(), 9);
            x.set(6);
            x.play(9);
            c.due("worn below the next", x.clearest(), 2);
        });
        s.test("of several the one with the least flutter", c -> {
            WaxCopies x = Situations.atMachine(100, 40);
            x.speak(2, 9);
            Situations.machineAt(x, 100, 45);
            x.speak(9, 9);
            c.due("as clear", x.trackOf(2, 1), x.trackOf(9, 1));
            c.due("1 is less than 2", x.clearest(), 9);
            Situations.machineAt(x, 100, 50);
            x.speak(17, 9);
            c.due("0 is less than 1", x.clearest(), 17);
        });
        s.test("of these the lowest", c -> {
            WaxCopies x = new WaxCopies();
            for (int track = 23; track >= 0; track--) {
                x.wind();
                x.sharpen();
                x.speak(track, 9);
                c.due("the lowest", x.clearest(), track);
            }
        });
        s.test("NONE if all are smooth.", c -> {
            WaxCopies x = new WaxCopies();
            c.due("all are smooth", x.clearest(), WaxCopies.NONE);
            Situations.speakAsClear(x, 23, 0);
            c.due("one is cut, with no clearness", x.clearest(), 23);
            x.shave(5);
            c.due("all are smooth again", x.clearest(), WaxCopies.NONE);
        });
    }

    private static void daughters(Sentences s) {
        s.under("Promise 25: daughters");
        s.test("Tells how many tracks are there that come from a track.", c -> {
            WaxCopies x = Situations.spoken(23, 4);
            x.copy(23, 0, 2);
            x.copy(23, 4, 2);
            x.copy(23, 8, 2);
            c.due("three", x.daughters(23), 3);
            c.due("none", x.daughters(0), 0);
        });
        s.test("`track`: 0 to 23", c -> Situations.takes(c, 0, 23, (x, track) -> x.daughters(track)));
        s.test("Returns the tracks that are cut now whose mother it is (by its number)", c -> {
            WaxCopies x = Situations.spoken(0, 4);
            c.due("none", x.daughters(0), 0);
            x.copy(0, 4, 2);
            x.copy(0, 8, 2);
            c.due("two", x.daughters(0), 2);
            x.shave(0);
            c.due("of a smooth one", x.daughters(0), 2);
            x.speak(0, 1);
            c.due("of one that is cut anew, by its number", x.daughters(0), 2);
            x.shave(1);
            c.due("one is smooth now", x.daughters(0), 1);
            x.renew(2, 60);
            c.due("both are smooth now", x.daughters(0), 0);
        });
        s.test("or whose mother's mother, and so on", c -> {
            WaxCopies x = Situations.spoken(0, 4);
            for (int track = 4; track < 24; track += 4) {
                x.wind();
                x.copy(track - 4, track, 2);
            }
            for (int track = 0; track < 24; track += 4) {
                c.due("of " + track, x.daughters(track), 5 - track / 4);
            }
        });
        s.test(NO_TRACK, c -> Situations.throwsOutside(c, INDEX, 0, 23, (x, track) -> x.daughters(track)));
    }

    private static void daughtersNow(Sentences s) {
        s.test("as the numbers tell now (a track that is smooth now has no mother, so the way ends there)", c -> {
            WaxCopies x = Situations.spoken(0, 4);
            x.speak(12, 4);
            x.copy(0, 4, 2);
            x.copy(4, 8, 2);
            x.wind();
            c.due("two on the way", x.daughters(0), 2);
            x.shave(1);
            c.due("the way ends at a smooth one", x.daughters(0), 0);
            c.due("which is the mother still", x.daughters(4), 1);
            x.copy(12, 4, 2);
            c.due("a way by the new number", x.daughters(12), 2);
            c.due("and none by the old one", x.daughters(0), 0);
            x.shave(1);
            x.speak(4, 1);
            c.due("the way ends at a spoken one", x.daughters(12), 0);
        });
        s.test("each once, and not itself.", c -> {
            WaxCopies x = Situations.spoken(0, 4);
            x.copy(0, 4, 2);
            x.shave(0);
            x.copy(4, 0, 2);
            c.due("a ring of two, from 0", x.daughters(0), 1);
            c.due("a ring of two, from 4", x.daughters(4), 1);
            x.wind();
            x.copy(0, 8, 2);
            x.copy(4, 9, 2);
            x.copy(8, 12, 2);
            x.copy(9, 13, 2);
            c.due("with what comes from the ring, from 0", x.daughters(0), 5);
            c.due("with what comes from the ring, from 4", x.daughters(4), 5);
            c.due("beside the ring", x.daughters(8), 1);
            c.due("a last one", x.daughters(13), 0);
            c.due("no one of the ring", x.daughters(20), 0);
        });
        s.test("and so on, as the numbers tell now", c -> {
            WaxCopies x = Situations.spoken(0, 4);
            for (int step = 1; step < 24; step++) {
                x.sharpen();
                x.wind();
                x.copy(placeOf(step - 1), placeOf(step), 2);
            }
            c.due("all are cut", x.count(3), 24);
            for (int step = 0; step < 24; step++) {
                c.due("of the step " + step, x.daughters(placeOf(step)), 23 - step);
            }
        });
    }

    /** A way over all tracks, each on another cylinder than the one before it. */
    private static int placeOf(int step) {
        return 4 * (step % 6) + step / 6;
    }

    private static void meanDepth(Sentences s) {
        s.under("Promise 26: meanDepth");
        s.test("Returns how deep the tracks are.", c -> {
            for (int depth = 1; depth <= 9; depth++) {
                c.dueShare("of " + depth, Situations.spoken(23, depth).meanDepth(), depth);
            }
        });
        s.test("Returns the depths of all tracks that are cut, together, as a float, divided by how many these are", c -> {
            WaxCopies x = new WaxCopies();
            int together = 0;
            for (int track = 0; track < 24; track++) {
                x.wind();
                x.speak(track, 1 + track * 5 % 9);
                together += 1 + track * 5 % 9;
                c.dueShare("of " + (track + 1), x.meanDepth(), (float) together / (track + 1));
            }
            WaxCopies y = Situations.spoken(0, 2);
            y.speak(1, 1);
            y.speak(2, 1);
            c.dueShare("4 / 3 as a float", y.meanDepth(), 1.3333334f);
            y.speak(4, 9);
            y.shave(0);
            c.dueShare("the shaved ones are none", y.meanDepth(), 9.0f);
        });
        s.test("0.0f without any.", c -> {
            WaxCopies x = new WaxCopies();
            c.dueShare("at first", x.meanDepth(), 0.0f);
            x.speak(0, 9);
            x.shave(0);
            c.dueShare("shaved", x.meanDepth(), 0.0f);
        });
    }

    private static void clearShare(Sentences s) {
        s.under("Promise 27: clearShare");
        s.test("Returns how clear the tracks are.", c -> {
            for (int clearness : new int[] {0, 1, 7, 50, 85}) {
                WaxCopies x = new WaxCopies();
                Situations.speakAsClear(x, 23, clearness);
                c.dueShare("of " + clearness, x.clearShare(), clearness / 100.0);
            }
        });
        s.test("Returns the clearness of all tracks that are cut, together, as a double, divided by 100 times these", c -> {
            WaxCopies x = new WaxCopies();
            int together = 0;
            for (int track = 0; track < 24; track++) {
                Situations.speakAsClear(x, track, track * 17 % 86);
                together += track * 17 % 86;
                c.dueShare("of " + (track + 1), x.clearShare(), (double) together / (100 * (track + 1)));
            }
            WaxCopies y = new WaxCopies();
            Situations.speakAsClear(y, 0, 80);
            Situations.speakAsClear(y, 1, 60);
            Situations.speakAsClear(y, 2, 60);
            c.dueShare("200 / 300", y.clearShare(), 0.6666666666666666);
            Situations.speakAsClear(y, 4, 7);
            y.shave(0);
            c.dueShare("the shaved ones are none", y.clearShare(), 0.07);
        });
        s.test("0.0 without any.", c -> {
            WaxCopies x = new WaxCopies();
            c.dueShare("at first", x.clearShare(), 0.0);
            x.speak(0, 9);
            x.renew(0, 60);
            c.dueShare("on a new blank", x.clearShare(), 0.0);
        });
    }

    private static final long[] NEW_NUMBERS = {100, 100, 0, 0, 0, 0, 0, 360, 0, 360, 0, 0, 0, 3};
    private static final long[] NEW_TRACK = {0, -1, -1, -1, -1, -1, -1, 0, 0, -1, -1, -1, -1};
    private static final long[] NEW_CYLINDER = {60, 0, 0, -1, 0};
    private static final long[] NEW_END = {-1, -1, -1, -1, 0, 0, 0, 0, 0};

    private static long mixed(long before, long... values) {
        long hash = before;
        for (long value : values) {
            hash = 31 * hash + value;
        }
        return hash;
    }

    private static void digest(Sentences s) {
        s.under("Promise 28: digest");
        s.test("Computes a hash of the whole state.", c -> {
            WaxCopies x = Situations.used();
            c.due("as the list tells", x.digest(), Situations.hashed(Situations.listed(x, 1, 1, "sa1=2;w")));
            c.due("asked again", x.digest(), Situations.used().digest());
        });
        s.test("The hash starts at 3559.", c -> {
            long hash = mixed(3559, NEW_NUMBERS);
            for (int track = 0; track < 24; track++) {
                hash = mixed(hash, NEW_TRACK);
            }
            for (int cylinder = 0; cylinder < 6; cylinder++) {
                hash = mixed(hash, NEW_CYLINDER);
            }
            c.due("new", new WaxCopies().digest(), mixed(hash, NEW_END));
        });
        s.test("For each value v of the following list, in order, the hash becomes 31 * hash + v, in long arithmetic with overflow.", c -> {
            WaxCopies x = Situations.used();
            BigInteger hash = BigInteger.valueOf(3559);
            List<Long> values = Situations.listed(x, 1, 1, "sa1=2;w");
            for (long value : values) {
                hash = hash.multiply(BigInteger.valueOf(31)).add(BigInteger.valueOf(value));
            }
            c.due("the lowest 64 bits of the whole number", x.digest(), hash.longValue());
            c.due("more than 64 bits (1 yes, 0 no)", hash.bitLength() > 64 ? 1 : 0, 1);
        });
        s.test("Returns the hash.", c -> {
            WaxCopies x = new WaxCopies();
            c.due("new", x.digest(), Situations.hashed(Situations.listed(x, 0, 0, "")));
        });
    }

    private static void digestValues(Sentences s) {
        s.test("count(0) to count(12); the setting", c -> {
            WaxCopies x = new WaxCopies();
            long before = x.digest();
            x.set(4);
            long places = 24L * 13 + 6 * 5 + 9;
            long power = 1;
            for (long i = 0; i < places; i++) {
                power *= 31;
            }
            // count(12) stands just ahead of the setting
            c.due("one more saved, and the setting 1 more", x.digest() - before, 31 * power + power);
        });
        s.test("for each track its properties 0 to 6, whyNot with 5, daughters, "
            + "and chain of 1 with 0, of 1 with 1, of 3 with 0, and of 3 with 1", c -> {
            for (int layers = 4; layers <= 5; layers++) {
                WaxCopies x = Situations.spoken(23, 7);
                x.renew(2, layers);
                x.copy(23, 0, 2);
                x.play(0);
                x.copy(0, 17, 3);
                c.due("with " + layers + " layers", x.digest(), Situations.hashed(Situations.listed(x, 0, 0, "")));
            }
        });
        s.test("for each cylinder its properties 0 to 4", c -> {
            WaxCopies x = new WaxCopies();
            for (int cylinder = 0; cylinder < 6; cylinder++) {
                x.renew(cylinder, 30 + cylinder);
                Situations.useUp(x, cylinder, 6 - cylinder, 7 - cylinder);
                if (cylinder % 2 == 0) {
                    x.shave(cylinder);
                }
            }
            c.due("all differ", x.digest(), Situations.hashed(Situations.listed(x, 0, 0, "")));
        });
        s.test("ifCopied of 0 onto 4, 4 onto 9 and 9 onto 0, each with the lever 2; clearest", c -> {
            for (int mother : new int[] {0, 4, 9}) {
                WaxCopies x = Situations.spoken(mother, 6);
                x.speak(22, 7);
                c.due("of " + mother, x.digest(), Situations.hashed(Situations.listed(x, 0, 0, "")));
            }
        });
        s.test("for each slot 1 if it has a snapshot, otherwise 0", c -> {
            WaxCopies x = new WaxCopies();
            long before = x.digest();
            x.keep(0);
            c.due("the slot 0", x.digest() - before, 31 * 31);
            x.keep(1);
            c.due("both", x.digest() - before, 31 * 31 + 31);
            WaxCopies y = new WaxCopies();
            y.keep(1);
            c.due("the slot 1", y.digest() - before, 31);
            y.keep(1);
            c.due("the slot 1 again", y.digest() - before, 31);
        });
        s.test("the length of the buffer and each of its character codes.", c -> {
            WaxCopies x = new WaxCopies();
            long hash = x.digest();
            x.append('!');
            c.due("one", x.digest(), mixed(hash + 1, '!'));
            x.append('~');
            c.due("two", x.digest(), mixed(hash + 2, '!', '~'));
            x.clearBuffer();
            c.due("none", x.digest(), hash);
            StringBuilder full = new StringBuilder();
            for (int i = 0; i < 60; i++) {
                full.append((char) (40 + i));
            }
            Situations.type(x, full.toString());
            c.due("60", x.digest(), Situations.hashed(Situations.listed(x, 0, 0, full.toString())));
        });
    }

    private static void digestShares(Sentences s) {
        s.test("the bits of meanDepth (as Float.floatToIntBits)", c -> {
            for (int depth = 1; depth <= 9; depth++) {
                for (int other = 1; other <= 9; other++) {
                    WaxCopies x = Situations.spoken(0, depth);
                    x.speak(1, other);
                    x.speak(2, 1);
                    c.due(depth + ", " + other + ", 1", x.digest(), Situations.hashed(Situations.listed(x, 0, 0, "")));
                }
            }
        });
        s.test("the bits of clearShare (as Double.doubleToLongBits)", c -> {
            for (int clearness = 0; clearness <= 85; clearness++) {
                WaxCopies x = new WaxCopies();
                Situations.speakAsClear(x, 0, clearness);
                c.due("one of " + clearness, x.digest(), Situations.hashed(Situations.listed(x, 0, 0, "")));
                Situations.speakAsClear(x, 5, 0);
                Situations.speakAsClear(x, 6, 0);
                c.due("three, of " + clearness, x.digest(), Situations.hashed(Situations.listed(x, 0, 0, "")));
            }
        });
    }
}
