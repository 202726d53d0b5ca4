/** The tests named by sentences of the terms from the input text to the exceptions. */
final class TextSentences {
    private static final String TRACKS = "abcdef";
    private static final String DIGITS = "0123";

    private TextSentences() {
    }

    static void all(Sentences s) {
        s.under("Input text");
        buffer(s);
        orders(s);
        eachOrder(s);
        syntaxErrors(s);
        s.under("Snapshots, undo");
        slots(s);
        savedStates(s);
        mostSaved(s);
        s.under("Exceptions");
        throwsChangeNothing(s);
        theFirstNamed(s);
        constants(s);
        looksChangeNothing(s);
    }

    /** Each character behind the text is an error, but for those that may go on from there. */
    private static void goesOnBy(Checks c, String text, String allowed) {
        for (int code = 33; code <= 126; code++) {
            WaxCopies x = Situations.typed(text + (char) code);
            int due = text.length() + (allowed.indexOf(code) >= 0 ? 1 : 0);
            c.due("firstError of " + text + (char) code, x.firstError(), due);
        }
    }

    private static void runs(Checks c, String text, int due) {
        c.due("run of " + text, Situations.typed(text).run(), due);
    }

    private static void runThrows(Checks c, String text) {
        c.dueThrow("run of " + text, Situations.ARGUMENT, () -> Situations.typed(text).run());
    }

    private static void buffer(Sentences s) {
        s.test("The buffer has at most 60 characters.", c -> {
            WaxCopies x = new WaxCopies();
            for (int length = 1; length <= 60; length++) {
                c.due("append", x.append('w'), length);
            }
            c.dueThrow("one more", Situations.STATE, () -> x.append('w'));
            c.due("its length stays", x.clearBuffer(), 60);
        });
        s.test("The buffer is read from left to right", c -> {
            c.due("the first of two errors", Situations.typed("w;q;q").firstError(), 2);
            c.due("an error at the start", Situations.typed("qw;w;w").firstError(), 0);
            c.due("an error at the end", Situations.typed("w;w;wq").firstError(), 5);
            WaxCopies x = Situations.typed("sa0=1;sa1=2");
            x.run();
            c.due("the first order is done first", x.trackOf(1, 1), 50);
            c.due("as clear as with a sharp point", x.trackOf(0, 1), 45);
        });
    }

    private static void orders(Sentences s) {
        s.test("Orders as a text are one or more of these with \";\" between them", c -> {
            runThrows(c, "");
            runs(c, "w", 1);
            runs(c, "w;w", 2);
            runs(c, "w;".repeat(29) + "w", 30);
            runThrows(c, ";");
            runThrows(c, ";w");
            runThrows(c, "w;");
            runThrows(c, "w;;w");
            runThrows(c, "ww");
            runThrows(c, "w,w");
        });
        s.test("where a track is a letter \"a\" to \"f\" (for the cylinder 0 to 5) and a digit, 0 to 3", c -> {
            for (int track = 0; track < 24; track++) {
                String name = "" + TRACKS.charAt(track / 4) + DIGITS.charAt(track % 4);
                WaxCopies x = Situations.typed("s" + name + "=1;p" + name);
                c.due("run on " + name, x.run(), 2);
                c.due("cut " + name, x.trackOf(track, 0), 1);
                c.due("played " + name, x.trackOf(track, 6), 1);
                c.due("in all", x.count(3), 1);
            }
            goesOnBy(c, "s", TRACKS);
            goesOnBy(c, "sa", DIGITS);
            goesOnBy(c, "sf", DIGITS);
            goesOnBy(c, "c", TRACKS);
            goesOnBy(c, "cf", DIGITS);
            goesOnBy(c, "cb1>", TRACKS);
            goesOnBy(c, "cb1>f", DIGITS);
            goesOnBy(c, "p", TRACKS);
            goesOnBy(c, "pa", DIGITS);
        });
    }

    private static void eachOrder(Sentences s) {
        s.test("\"s\", a track, \"=\", and a loudness, 1 to 9 (speaking)", c -> {
            for (int loudness = 1; loudness <= 9; loudness++) {
                WaxCopies x = Situations.typed("sc2=" + loudness);
                c.due("run with " + loudness, x.run(), 1);
                c.due("depth by " + loudness, x.trackOf(10, 0), loudness);
            }
            goesOnBy(c, "sc2", "=");
            goesOnBy(c, "sc2=", "123456789");
            goesOnBy(c, "sc2=1", ";");
            runThrows(c, "sc2=");
        });
        s.test("\"c\", a track (the mother), \">\", a track, \"*\", and a lever, 1 to 3", c -> {
            int[] depths = {4, 8, 9};
            for (int lever = 1; lever <= 3; lever++) {
                WaxCopies x = Situations.typed("sb1=8;cb1>f3*" + lever);
                c.due("run with " + lever, x.run(), 2);
                c.due("mother", x.trackOf(23, 4), 5);
                c.due("depth by " + lever, x.trackOf(23, 0), depths[lever - 1]);
            }
            goesOnBy(c, "cb1", ">");
            goesOnBy(c, "cb1>f3", "*");
            goesOnBy(c, "cb1>f3*", "123");
            goesOnBy(c, "cb1>f3*3", ";");
            runThrows(c, "cb1>f3*");
        });
        s.test("\"p\" and a track (playing)", c -> {
            WaxCopies x = Situations.typed("sa0=9;sf3=9;pf3;pa0;pf3");
            c.due("run", x.run(), 5);
            c.due("plays of the first", x.trackOf(0, 6), 1);
            c.due("plays of the last", x.trackOf(23, 6), 2);
            goesOnBy(c, "pa0", ";");
            runThrows(c, "pa");
        });
        s.test("\"x\" and the letter of a cylinder (it is shaved)", c -> {
            for (int cylinder = 0; cylinder < 6; cylinder++) {
                WaxCopies x = Situations.spoken(4 * cylinder + 3, 4);
                Situations.type(x, "x" + TRACKS.charAt(cylinder));
                c.due("run on " + cylinder, x.run(), 1);
                c.due("layers of " + cylinder, x.cylinderOf(cylinder, 0), 56);
            }
            goesOnBy(c, "x", TRACKS);
            goesOnBy(c, "xa", ";");
            runThrows(c, "x");
        });
        s.test("or \"w\" (the spring is wound up)", c -> {
            WaxCopies x = Situations.spoken(0, 1);
            Situations.type(x, "w");
            c.due("run", x.run(), 1);
            c.due("wound up", x.count(1), 100);
            goesOnBy(c, "w", ";");
        });
    }

    private static void syntaxErrors(Sentences s) {
        s.test("a character is a syntax error if no orders as a text, of any length, "
            + "begin with the characters before it and this character.", c -> {
            goesOnBy(c, "", "scpxw");
            goesOnBy(c, "w;", "scpxw");
            goesOnBy(c, "sa0=9;cb1>f3*3;pb2;xc;w;", "scpxw");
            String whole = "sa0=9;cb1>f3*3;pb2;xc;w";
            for (int length = 0; length <= whole.length(); length++) {
                c.due("the first " + length, Situations.typed(whole.substring(0, length)).firstError(), length);
            }
            String long54 = "pa0;pa0;pa0;pa0;pa0;pa0;pa0;pa0;pa0;pa0;pa0;pa0;pa0;w;";
            c.due("too long for the buffer is no error", Situations.typed(long54 + "cb1>f3").firstError(), 60);
            c.due("nor is a last ;", Situations.typed(long54 + "sa0=9;").firstError(), 60);
            c.due("but the last of 60 may be one", Situations.typed(long54 + "sa0=9s").firstError(), 59);
        });
    }

    private static void slots(Sentences s) {
        s.test("There are two slots", c -> {
            WaxCopies x = Situations.spoken(0, 4);
            x.keep(0);
            x.speak(1, 5);
            x.keep(1);
            x.speak(2, 6);
            c.due("of the slot 0", x.goBack(0), 1);
            c.due("of the slot 1", x.goBack(1), 2);
            c.due("of the slot 0 again", x.goBack(0), 1);
            c.dueThrow("no slot ahead", Situations.ARGUMENT, () -> x.keep(-1));
            c.dueThrow("no slot behind", Situations.ARGUMENT, () -> x.keep(2));
        });
        s.test("a snapshot is all but the buffer, the slots and the saved states.", c -> {
            WaxCopies x = Situations.used();
            for (int i = 0; i < 4; i++) {
                x.undo();
            }
            x.clearBuffer();
            x.keep(0);
            String kept = Situations.state(x);
            long[] numbers = new long[12];
            for (int what = 0; what < 12; what++) {
                numbers[what] = x.count(what);
            }
            x.set(9);
            x.renew(3, 50);
            Situations.type(x, "pa0;sf0=3;cf0>a1*3;xb;pa2");
            x.run();
            for (int what = 0; what < 12; what++) {
                c.due("count(" + what + ") is another (1 yes, 0 no)", x.count(what) != numbers[what] ? 1 : 0, 1);
            }
            x.keep(1);
            Situations.type(x, "pa0");
            x.goBack(0);
            c.dueText("all is back", Situations.state(x), kept);
            c.due("the saved states are not, and one more is there", x.count(12), 6);
            c.due("the buffer is not", x.clearBuffer(), 3);
            x.goBack(1);
            c.due("the other slot is not", x.setting(), 9);
            eachPropertyOfATrackIsBack(c);
        });
    }

    /** A track that is cut anew differs from the old one in each property. */
    private static void eachPropertyOfATrackIsBack(Checks c) {
        WaxCopies x = Situations.atMachine(99, 30);
        x.speak(20, 7);
        x.wind();
        x.copy(20, 0, 3);
        x.play(0);
        x.keep(1);
        String kept = Situations.state(x);
        x.shave(0);
        x.speak(0, 2);
        for (int what = 0; what < 7; what++) {
            int anew = x.trackOf(0, what);
            x.goBack(1);
            c.due("property " + what + " differs (1 yes, 0 no)", x.trackOf(0, what) != anew ? 1 : 0, 1);
            c.dueText("gone back", Situations.state(x), kept);
            x.undo();
            c.due("undone, property " + what, x.trackOf(0, what), anew);
        }
    }

    private static void savedStates(Sentences s) {
        s.test("Each method that is marked \"undoable\" and does not throw an exception saves the state from before it", c -> {
            Situations.undoes(c, "speak", x -> x.speak(1, 4));
            Situations.undoes(c, "copy", x -> x.copy(0, 8, 1));
            Situations.undoes(c, "play", x -> x.play(0));
            Situations.undoes(c, "shave", x -> x.shave(0));
            Situations.undoes(c, "wind", WaxCopies::wind);
            Situations.undoes(c, "sharpen", WaxCopies::sharpen);
            Situations.undoes(c, "renew", x -> x.renew(0, 50));
            Situations.undoes(c, "set", x -> x.set(11));
            Situations.undoes(c, "run", WaxCopies::run);
            Situations.undoes(c, "goBack", x -> x.goBack(0));
            savesNothing(c, "append", x -> x.append('w'));
            savesNothing(c, "clearBuffer", WaxCopies::clearBuffer);
            savesNothing(c, "firstError", WaxCopies::firstError);
            savesNothing(c, "keep", x -> x.keep(1));
        });
        s.test("(also if it changes nothing, or is refused)", c -> {
            WaxCopies x = new WaxCopies();
            c.due("wound up already", x.wind() + x.count(12), 1);
            c.due("sharp already", x.sharpen() + x.count(12), 2);
            c.due("set to the same", x.set(3) + x.count(12), 3 + 3);
            x.keep(0);
            c.due("gone back to the same", x.goBack(0) + x.count(12), 4);
            Situations.type(x, "w");
            c.due("wound up by a text", x.run() + x.count(12), 1 + 5);
            Situations.undoes(c, "speak, refused", y -> y.speak(0, 4));
            Situations.undoes(c, "copy, refused", y -> y.copy(0, 1, 1));
            Situations.undoes(c, "play, refused", y -> y.play(1));
            Situations.undoes(c, "shave, refused", y -> y.shave(2));
        });
        s.test("all, also what is counted so far, but the buffer, the slots and the saved states.", c -> {
            WaxCopies x = Situations.used();
            x.undo();
            x.undo();
            String before = Situations.state(x);
            Situations.type(x, ";pa0;xa;xa");
            c.due("done", x.run(), 4);
            x.keep(0);
            Situations.type(x, "pa");
            x.undo();
            c.dueText("all is as before", Situations.state(x), before);
            c.due("the buffer is not", x.clearBuffer(), 2);
            x.goBack(0);
            c.due("the slot is not", x.trackOf(0, 0), 0);
        });
    }

    private static void savesNothing(Checks c, String what, Situations.On call) {
        WaxCopies x = Situations.used();
        x.undo();
        x.undo();
        String before = Situations.state(x);
        call.answer(x);
        c.due(what + " saves nothing", x.count(12), 4);
        c.dueText(what + " leaves the rest", Situations.state(x), before);
    }

    private static void mostSaved(Sentences s) {
        s.test("At most 6 states are saved", c -> {
            WaxCopies x = new WaxCopies();
            int[] due = {1, 2, 3, 4, 5, 6, 6, 6, 6, 6, 6, 6, 6, 6};
            for (int i = 0; i < due.length; i++) {
                x.set(i);
                c.due("after " + (i + 1), x.count(12), due[i]);
            }
            for (int left = 5; left >= 0; left--) {
                c.due("undo", x.undo(), left);
            }
            c.dueThrow("a seventh undo", Situations.STATE, () -> x.undo());
        });
        s.test("the oldest one is dropped first.", c -> {
            WaxCopies x = new WaxCopies();
            for (int i = 10; i <= 17; i++) {
                x.set(i);
            }
            for (int due = 16; due >= 11; due--) {
                x.undo();
                c.due("the setting", x.setting(), due);
            }
        });
    }

    private static void throwsChangeNothing(Sentences s) {
        s.test("A call that throws an exception changes nothing (the buffer stays as it is, too).", c -> {
            Situations.On[] calls = {x -> x.speak(24, 1), x -> x.speak(1, 10), x -> x.copy(24, 1, 1), x -> x.copy(0, 24, 1),
                x -> x.copy(0, 8, 4), x -> x.play(24), x -> x.shave(6), x -> x.renew(6, 1), x -> x.renew(0, 101), x -> x.set(21),
                x -> x.append(32), x -> x.append(127), x -> x.keep(2), x -> x.goBack(2), x -> x.trackOf(24, 0), x -> x.trackOf(0, 7),
                x -> x.cylinderOf(6, 0), x -> x.cylinderOf(0, 5), x -> x.count(13), x -> x.whyNot(24, 1), x -> x.whyNot(1, 10),
                x -> x.ifCopied(24, 1, 1), x -> x.ifCopied(0, 24, 1), x -> x.ifCopied(0, 8, 4), x -> x.chain(24, 1, 0),
                x -> x.chain(0, 6, 0), x -> x.chain(0, 1, 2), x -> x.daughters(24)};
            for (int i = 0; i < calls.length; i++) {
                leavesAll(c, "call " + i, calls[i], "");
            }
            leavesAll(c, "run of a half", WaxCopies::run, ";s");
            leavesAll(c, "append behind the end", x -> x.append('w'), ";" + "w;".repeat(26));
            WaxCopies x = Situations.typed("pa");
            String before = Situations.picture(x);
            c.dueThrow("undo of nothing", Situations.STATE, () -> x.undo());
            c.dueThrow("goBack to nothing", Situations.STATE, () -> x.goBack(0));
            c.dueText("what is seen", Situations.picture(x), before);
        });
    }

    /** An object that the call throws on is compared with its twin, in all that is seen and in all that can be gone back to. */
    private static void leavesAll(Checks c, String what, Situations.On call, String typed) {
        WaxCopies x = Situations.used();
        WaxCopies twin = Situations.used();
        Situations.type(x, typed);
        Situations.type(twin, typed);
        boolean thrown = false;
        try {
            call.answer(x);
        } catch (RuntimeException e) {
            thrown = true;
        }
        c.due(what + " throws (1 yes, 0 no)", thrown ? 1 : 0, 1);
        c.dueText(what + ": what is seen", Situations.picture(x), Situations.picture(twin));
        Situations.samePast(c, what, x, twin);
        c.due(what + ": the buffer", x.clearBuffer(), 7 + typed.length());
    }

    private static void theFirstNamed(Sentences s) {
        s.test("If several exceptions apply, the one that is named first in the throws clause is thrown.", c -> {
            WaxCopies x = Situations.used();
            for (int[] wrong : new int[][] {{-1, 0}, {24, 10}, {Integer.MIN_VALUE, Integer.MAX_VALUE}}) {
                int at = wrong[0];
                int value = wrong[1];
                c.dueThrow("speak", Situations.INDEX, () -> x.speak(at, value));
                c.dueThrow("copy of no track", Situations.INDEX, () -> x.copy(at, 8, value));
                c.dueThrow("copy onto no track", Situations.INDEX, () -> x.copy(0, at, value));
                c.dueThrow("renew, too few", Situations.INDEX, () -> x.renew(at, -1));
                c.dueThrow("renew, too many", Situations.INDEX, () -> x.renew(at, 101));
                c.dueThrow("trackOf", Situations.INDEX, () -> x.trackOf(at, at));
                c.dueThrow("cylinderOf", Situations.INDEX, () -> x.cylinderOf(at, at));
                c.dueThrow("whyNot", Situations.INDEX, () -> x.whyNot(at, value));
                c.dueThrow("ifCopied of no track", Situations.INDEX, () -> x.ifCopied(at, 8, value));
                c.dueThrow("ifCopied onto no track", Situations.INDEX, () -> x.ifCopied(0, at, value));
                c.dueThrow("chain, copies", Situations.INDEX, () -> x.chain(at, value, 0));
                c.dueThrow("chain, what", Situations.INDEX, () -> x.chain(at, 1, at));
                c.dueThrow("chain, both", Situations.INDEX, () -> x.chain(at, value, at));
            }
            WaxCopies empty = new WaxCopies();
            c.dueThrow("goBack to no slot", Situations.ARGUMENT, () -> empty.goBack(2));
            WaxCopies full = Situations.typed("w;".repeat(30));
            c.dueThrow("append of no character", Situations.ARGUMENT, () -> full.append(127));
        });
    }

    private static void constants(Sentences s) {
        s.test("`NONE = -1`: There is nothing to return.", c -> {
            WaxCopies x = new WaxCopies();
            c.due("NONE", WaxCopies.NONE, -1);
            c.due("shave", x.shave(0), WaxCopies.NONE);
            c.due("trackOf", x.trackOf(0, 1), WaxCopies.NONE);
            c.due("cylinderOf", x.cylinderOf(0, 3), WaxCopies.NONE);
            c.due("chain", x.chain(0, 1, 0), WaxCopies.NONE);
            c.due("clearest", x.clearest(), WaxCopies.NONE);
        });
        s.nothingToTest("---- cuts, plays.");
        s.nothingToTest("---- the machine.");
        s.nothingToTest("---- texts, snapshots.");
    }

    private static void looksChangeNothing(Sentences s) {
        s.test("---- looks; nothing is changed.", c -> {
            WaxCopies x = Situations.used();
            WaxCopies twin = Situations.used();
            String before = Situations.picture(x);
            for (int i = 0; i < 3; i++) {
                c.dueText("seen again", Situations.picture(x), before);
            }
            Situations.samePast(c, "after looks", x, twin);
            c.due("the buffer", x.clearBuffer(), 7);
        });
        s.test("---- what would be; nothing is changed.", c -> {
            WaxCopies x = Situations.used();
            WaxCopies twin = Situations.used();
            String before = Situations.picture(x);
            for (int track = 0; track < 24; track++) {
                x.whyNot(track, 9);
                x.ifCopied(0, track, 1);
                x.ifCopied(track, 8, 3);
                x.chain(track, 5, 0);
                x.chain(track, 5, 1);
                x.daughters(track);
            }
            x.clearest();
            c.dueShare("meanDepth", x.meanDepth(), x.meanDepth());
            c.dueShare("clearShare", x.clearShare(), x.clearShare());
            c.due("digest", x.digest(), twin.digest());
            c.dueText("what is seen", Situations.picture(x), before);
            Situations.samePast(c, "after what would be", x, twin);
            c.due("the buffer", x.clearBuffer(), 7);
        });
    }
}
