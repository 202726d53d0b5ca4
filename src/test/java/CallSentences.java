/** The tests named by sentences of the promises 1 to 16: a new object, cuts, plays, the machine, texts, snapshots. */
final class CallSentences {
    private static final Class<IndexOutOfBoundsException> INDEX = Situations.INDEX;
    private static final Class<IllegalArgumentException> ARGUMENT = Situations.ARGUMENT;
    private static final Class<IllegalStateException> STATE = Situations.STATE;

    private static final String NO_TRACK = "Throws `IndexOutOfBoundsException` if there is no such track";
    private static final String NO_CYLINDER = "Throws `IndexOutOfBoundsException` if there is no such cylinder";
    private static final String REFUSED_TOO = "Undoable, also if it is refused.";

    private CallSentences() {
    }

    static void all(Sentences s) {
        aNewObject(s);
        speak(s);
        speakThrows(s);
        copy(s);
        copyThrows(s);
        play(s);
        shave(s);
        wind(s);
        sharpen(s);
        renew(s);
        renewThrows(s);
        set(s);
        append(s);
        appendThrows(s);
        clearBuffer(s);
        firstError(s);
        run(s);
        runReturns(s);
        keep(s);
        goBack(s);
        undo(s);
    }

    private static void aNewObject(Sentences s) {
        s.under("Promise 1: A new object");
        s.test("Creates smooth cylinders with 60 layers", c -> {
            WaxCopies x = new WaxCopies();
            for (int cylinder = 0; cylinder < 6; cylinder++) {
                int[] due = {60, 0, 0, -1, 0};
                for (int what = 0; what < due.length; what++) {
                    c.due("cylinderOf(" + cylinder + ", " + what + ")", x.cylinderOf(cylinder, what), due[what]);
                }
            }
            int[] due = {100, 100, 0, 0, 0, 0, 0, 360, 0, 360, 0, 0, 0};
            for (int what = 0; what < due.length; what++) {
                c.due("count(" + what + ")", x.count(what), due[what]);
            }
        });
        s.test("a sharp point and a wound spring", c -> {
            WaxCopies x = new WaxCopies();
            c.due("nothing to sharpen", x.sharpen(), 0);
            c.due("nothing to wind", x.wind(), 0);
        });
        s.test("with empty slots", c -> {
            WaxCopies x = new WaxCopies();
            c.dueThrow("slot 0", STATE, () -> x.goBack(0));
            c.dueThrow("slot 1", STATE, () -> x.goBack(1));
        });
        s.test("and an empty buffer", c -> {
            WaxCopies x = new WaxCopies();
            c.due("no error", x.firstError(), 0);
            c.dueThrow("no orders", ARGUMENT, () -> x.run());
            c.due("its length", x.clearBuffer(), 0);
        });
    }

    private static void speak(Sentences s) {
        s.under("Promise 2: speak");
        s.test("Speaks onto a track.", c -> {
            WaxCopies x = new WaxCopies();
            x.speak(23, 9);
            int[] due = {9, 85, 0, 0, -1, 85, 0};
            for (int what = 0; what < due.length; what++) {
                c.due("trackOf(23, " + what + ")", x.trackOf(23, what), due[what]);
            }
            c.due("spoken so far", x.count(4), 1);
        });
        s.test(REFUSED_TOO, c -> {
            Situations.undoes(c, "cut", x -> x.speak(23, 9));
            Situations.undoes(c, "refused", x -> x.speak(0, 9));
        });
        s.test("Returns 0 if it is cut, otherwise the reason.", c -> {
            WaxCopies x = new WaxCopies();
            x.renew(0, 1);
            c.due("cut", x.speak(0, 1), 0);
            c.due("cut already", x.speak(0, 1), 1);
            c.due("too few layers", x.speak(1, 2), 2);
            Situations.machineAt(x, 100, 5);
            c.due("run down", x.speak(1, 1), 3);
        });
    }

    private static void speakThrows(Sentences s) {
        s.test("`track`: 0 to 23", c -> Situations.takes(c, 0, 23, (x, track) -> x.speak(track, 1)));
        s.test("`loudness`: 1 to 9", c -> {
            Situations.takes(c, 1, 9, (x, loudness) -> x.speak(1, loudness));
            Situations.takes(c, 1, 9, (x, loudness) -> x.speak(0, loudness));
        });
        s.test(NO_TRACK, c -> Situations.throwsOutside(c, INDEX, 0, 23, (x, track) -> x.speak(track, 1)));
        s.test("Throws `IllegalArgumentException` if loudness is out of range", c -> {
            Situations.throwsOutside(c, ARGUMENT, 1, 9, (x, loudness) -> x.speak(1, loudness));
            Situations.throwsOutside(c, ARGUMENT, 1, 9, (x, loudness) -> x.speak(0, loudness));
        });
    }

    private static void copy(Sentences s) {
        s.under("Promise 3: copy");
        s.test("Copies a track onto another one.", c -> {
            WaxCopies x = Situations.spoken(23, 9);
            x.copy(23, 0, 3);
            int[] due = {9, 79, 0, 1, 23, 79, 0};
            for (int what = 0; what < due.length; what++) {
                c.due("trackOf(0, " + what + ")", x.trackOf(0, what), due[what]);
            }
            c.due("the mother stays", x.trackOf(23, 1), 85);
            c.due("copied so far", x.count(5), 1);
        });
        s.test(REFUSED_TOO, c -> {
            Situations.undoes(c, "cut", x -> x.copy(4, 23, 1));
            Situations.undoes(c, "refused", x -> x.copy(4, 0, 1));
        });
        s.test("Returns 0 if it is cut, otherwise the reason.", c -> {
            WaxCopies x = Situations.spoken(0, 9);
            c.due("cut", x.copy(0, 4, 1), 0);
            c.due("smooth", x.copy(1, 5, 1), 1);
            c.due("cut already", x.copy(0, 4, 1), 2);
            c.due("the same cylinder", x.copy(0, 1, 1), 3);
            x.renew(2, 3);
            c.due("too few layers", x.copy(0, 8, 1), 4);
            Situations.machineAt(x, 100, 15);
            c.due("run down", x.copy(0, 5, 1), 5);
        });
    }

    private static void copyThrows(Sentences s) {
        s.test("`mother`: 0 to 23", c -> Situations.takes(c, 0, 23, (x, mother) -> x.copy(mother, 20, 1)));
        s.test("`track`: 0 to 23", c -> Situations.takes(c, 0, 23, (x, track) -> x.copy(0, track, 1)));
        s.test("`lever`: 1 to 3", c -> Situations.takes(c, 1, 3, (x, lever) -> x.copy(0, 20, lever)));
        s.test(NO_TRACK, c -> {
            Situations.throwsOutside(c, INDEX, 0, 23, (x, mother) -> x.copy(mother, 20, 1));
            Situations.throwsOutside(c, INDEX, 0, 23, (x, track) -> x.copy(0, track, 1));
            Situations.throwsOutside(c, INDEX, 0, 23, (x, both) -> x.copy(both, both, 1));
        });
        s.test("Throws `IllegalArgumentException` if lever is out of range", c -> {
            Situations.throwsOutside(c, ARGUMENT, 1, 3, (x, lever) -> x.copy(0, 20, lever));
            Situations.throwsOutside(c, ARGUMENT, 1, 3, (x, lever) -> x.copy(1, 1, lever));
        });
    }

    private static void play(Sentences s) {
        s.under("Promise 4: play");
        s.test("Plays a track.", c -> {
            WaxCopies x = Situations.spoken(23, 9);
            x.play(23);
            c.due("its clearness", x.trackOf(23, 1), 82);
            c.due("as it was cut", x.trackOf(23, 5), 85);
            c.due("its plays", x.trackOf(23, 6), 1);
            c.due("plays so far", x.count(6), 1);
            c.due("the spring", x.count(1), 85);
            c.due("the point is not in use", x.count(0), 91);
        });
        s.test(REFUSED_TOO, c -> {
            Situations.undoes(c, "played", x -> x.play(0));
            Situations.undoes(c, "refused", x -> x.play(1));
        });
        s.test("`track`: 0 to 23", c -> Situations.takes(c, 0, 23, (x, track) -> x.play(track)));
        s.test("Returns 10 and its clearness then, together", c -> {
            WaxCopies x = Situations.spoken(0, 9);
            c.due("worn by 3", x.play(0), 92);
            x.set(20);
            for (int due : new int[] {72, 52, 32, 12, 10, 10}) {
                c.due("worn by 20", x.play(0), due);
            }
        });
        s.test("if it is refused the reason.", c -> {
            WaxCopies x = Situations.spoken(0, 9);
            c.due("smooth", x.play(1), 1);
            Situations.machineAt(x, 100, 0);
            c.due("run down", x.play(0), 2);
            c.due("its clearness stays", x.trackOf(0, 1), 85);
            c.due("its plays", x.trackOf(0, 6), 0);
        });
        s.test(NO_TRACK, c -> Situations.throwsOutside(c, INDEX, 0, 23, (x, track) -> x.play(track)));
    }

    private static void shave(Sentences s) {
        s.under("Promise 5: shave");
        s.test("Shaves a cylinder.", c -> {
            WaxCopies x = Situations.spoken(23, 4);
            x.speak(20, 6);
            x.shave(5);
            int[] due = {54, 0, 0, -1, 1};
            for (int what = 0; what < due.length; what++) {
                c.due("cylinderOf(5, " + what + ")", x.cylinderOf(5, what), due[what]);
            }
            c.due("layers shaved off so far", x.count(8), 6);
        });
        s.test(REFUSED_TOO, c -> {
            Situations.undoes(c, "shaved", x -> x.shave(0));
            Situations.undoes(c, "refused", x -> x.shave(5));
        });
        s.test("`cylinder`: 0 to 5", c -> Situations.takes(c, 0, 5, (x, cylinder) -> x.shave(cylinder)));
        s.test("Returns how many layers are taken off", c -> {
            for (int depth = 1; depth <= 9; depth++) {
                c.due("of the depth " + depth, Situations.spoken(3, depth).shave(0), depth);
            }
        });
        s.test("NONE if it is refused.", c -> {
            WaxCopies x = new WaxCopies();
            for (int cylinder = 0; cylinder < 6; cylinder++) {
                c.due("smooth " + cylinder, x.shave(cylinder), WaxCopies.NONE);
            }
            c.due("what was refused", x.count(11), 6);
            c.due("shaved so far", x.cylinderOf(0, 4) + x.cylinderOf(5, 4), 0);
        });
        s.test(NO_CYLINDER, c -> Situations.throwsOutside(c, INDEX, 0, 5, (x, cylinder) -> x.shave(cylinder)));
    }

    private static void wind(Sentences s) {
        s.under("Promise 6: wind");
        s.test("Winds the spring up, to 100.", c -> {
            for (int spring = 0; spring <= 100; spring += 5) {
                WaxCopies x = Situations.atMachine(50, spring);
                x.wind();
                c.due("from " + spring, x.count(1), 100);
                c.due("the point stays", x.count(0), 50);
            }
        });
        s.test("Undoable.", c -> {
            Situations.undoes(c, "wind", WaxCopies::wind);
            WaxCopies x = Situations.atMachine(100, 35);
            x.wind();
            x.wind();
            x.undo();
            c.due("the second is undone", x.count(1), 100);
            x.undo();
            c.due("the first is undone", x.count(1), 35);
        });
        s.test("Returns by how much it is wound.", c -> {
            for (int spring = 0; spring <= 100; spring += 5) {
                c.due("from " + spring, Situations.atMachine(50, spring).wind(), 100 - spring);
            }
        });
    }

    private static void sharpen(Sentences s) {
        s.under("Promise 7: sharpen");
        s.test("Sharpens the point, to 100.", c -> {
            for (int sharpness : new int[] {0, 1, 50, 99, 100}) {
                WaxCopies x = Situations.atMachine(sharpness, 50);
                x.sharpen();
                c.due("from " + sharpness, x.count(0), 100);
                c.due("the spring stays", x.count(1), 50);
            }
        });
        s.test("Undoable.", c -> {
            Situations.undoes(c, "sharpen", WaxCopies::sharpen);
            WaxCopies x = Situations.atMachine(35, 100);
            x.sharpen();
            x.sharpen();
            x.undo();
            c.due("the second is undone", x.count(0), 100);
            x.undo();
            c.due("the first is undone", x.count(0), 35);
        });
        s.test("Returns by how much it is sharper.", c -> {
            for (int sharpness : new int[] {0, 1, 50, 99, 100}) {
                c.due("from " + sharpness, Situations.atMachine(sharpness, 50).sharpen(), 100 - sharpness);
            }
        });
    }

    private static void renew(Sentences s) {
        s.under("Promise 8: renew");
        s.test("Puts a new blank in place of a cylinder: its tracks are smooth.", c -> {
            WaxCopies x = Situations.spoken(7, 5);
            x.speak(12, 5);
            Situations.useUp(x, 2, 1, 2, 3, 4);
            x.copy(8, 0, 2);
            x.renew(2, 70);
            for (int track = 8; track < 12; track++) {
                for (int what = 0; what < 7; what++) {
                    c.due("trackOf(" + track + ", " + what + ")", x.trackOf(track, what), what == 0 ? 0 : -1);
                }
            }
            c.due("its layers", x.cylinderOf(2, 0), 70);
            c.due("the track ahead stays", x.trackOf(7, 0), 5);
            c.due("the track behind stays", x.trackOf(12, 0), 5);
            c.due("a copy keeps its mother's number", x.trackOf(0, 4), 8);
            c.due("nothing was refused", x.count(11), 0);
        });
        s.test("Undoable.", c -> {
            Situations.undoes(c, "renew", x -> x.renew(0, 100));
            Situations.undoes(c, "renew of a smooth one", x -> x.renew(5, 60));
        });
        s.test("Returns the layers that the old one had.", c -> {
            WaxCopies x = new WaxCopies();
            c.due("60 at first", x.renew(0, 0), 60);
            c.due("none", x.renew(0, 100), 0);
            c.due("the most", x.renew(0, 0), 100);
            x.speak(4, 9);
            x.shave(1);
            c.due("shaved", x.renew(1, 1), 51);
        });
    }

    private static void renewThrows(Sentences s) {
        s.test("`cylinder`: 0 to 5", c -> Situations.takes(c, 0, 5, (x, cylinder) -> x.renew(cylinder, 1)));
        s.test("`layers`: 0 to 100", c -> {
            Situations.takes(c, 0, 100, (x, layers) -> x.renew(0, layers));
            for (int layers = 0; layers <= 100; layers++) {
                WaxCopies x = new WaxCopies();
                x.renew(5, layers);
                c.due("layers of the cylinder", x.cylinderOf(5, 0), layers);
            }
        });
        s.test(NO_CYLINDER, c -> Situations.throwsOutside(c, INDEX, 0, 5, (x, cylinder) -> x.renew(cylinder, 1)));
        s.test("Throws `IllegalArgumentException` if layers is out of range",
            c -> Situations.throwsOutside(c, ARGUMENT, 0, 100, (x, layers) -> x.renew(0, layers)));
    }

    private static void set(Sentences s) {
        s.under("Promise 9: set");
        s.test("Changes the setting.", c -> {
            WaxCopies x = Situations.spoken(0, 9);
            x.set(11);
            x.play(0);
            c.due("worn by it", x.trackOf(0, 1), 74);
        });
        s.test("Undoable.", c -> {
            Situations.undoes(c, "set", x -> x.set(20));
            WaxCopies x = new WaxCopies();
            x.set(20);
            x.undo();
            c.due("undone", x.setting(), 3);
        });
        s.test("`value`: 0 to 20", c -> {
            Situations.takes(c, 0, 20, (x, value) -> x.set(value));
            for (int value = 0; value <= 20; value++) {
                WaxCopies x = new WaxCopies();
                x.set(value);
                c.due("the setting", x.setting(), value);
            }
        });
        s.test("Returns the previous value.", c -> {
            WaxCopies x = new WaxCopies();
            c.due("3 at first", x.set(20), 3);
            c.due("the most", x.set(20), 20);
            c.due("the same again", x.set(0), 20);
            c.due("the least", x.set(1), 0);
        });
        s.test("Throws `IllegalArgumentException` if value is out of range",
            c -> Situations.throwsOutside(c, ARGUMENT, 0, 20, (x, value) -> x.set(value)));
    }

    private static void append(Sentences s) {
        s.under("Promise 10: append");
        s.test("Appends a character to the buffer.", c -> {
            WaxCopies x = Situations.typed("sb1=");
            x.append('7');
            c.due("run", x.run(), 1);
            c.due("depth", x.trackOf(5, 0), 7);
        });
        s.test("`code`: the character code, 33 to 126", c -> Situations.takes(c, 33, 126, (x, code) -> x.append(code)));
        s.test("Returns the new length of the buffer.", c -> {
            WaxCopies x = new WaxCopies();
            for (int length = 1; length <= 60; length++) {
                c.due("the new length", x.append(33 + length), length);
            }
            x.clearBuffer();
            c.due("the first after it is cleared", x.append('w'), 1);
        });
    }

    private static void appendThrows(Sentences s) {
        s.test("Throws `IllegalArgumentException` if code is not 33 to 126", c -> {
            Situations.throwsOutside(c, ARGUMENT, 33, 126, (x, code) -> x.append(code));
            c.dueThrow("what a character could be cut from", ARGUMENT, () -> new WaxCopies().append(65536 + 'w'));
        });
        s.test("Throws `IllegalStateException` if the buffer has 60 characters", c -> {
            WaxCopies x = new WaxCopies();
            for (int length = 1; length <= 59; length++) {
                x.append('p');
            }
            c.due("the last one", x.append('p'), 60);
            String before = Situations.picture(x);
            c.dueThrow("one more", STATE, () -> x.append('p'));
            c.dueThrow("and one more", STATE, () -> x.append(126));
            c.dueText("what is seen", Situations.picture(x), before);
            x.clearBuffer();
            c.dueNoThrow("after it is cleared", () -> x.append('p'));
        });
    }

    private static void clearBuffer(Sentences s) {
        s.under("Promise 11: clearBuffer");
        s.test("Clears the buffer.", c -> {
            WaxCopies x = Situations.typed("pa0;q");
            x.clearBuffer();
            c.due("no error is left", x.firstError(), 0);
            c.dueThrow("no orders are left", ARGUMENT, () -> x.run());
            Situations.type(x, "w");
            c.due("the next text stands alone", x.run(), 1);
        });
        s.test("Returns the length that it had.", c -> {
            WaxCopies x = new WaxCopies();
            c.due("empty", x.clearBuffer(), 0);
            Situations.type(x, "w");
            c.due("one", x.clearBuffer(), 1);
            for (int i = 0; i < 60; i++) {
                x.append('~');
            }
            c.due("full", x.clearBuffer(), 60);
            c.due("empty again", x.clearBuffer(), 0);
        });
    }

    private static void firstError(Sentences s) {
        s.under("Promise 12: firstError");
        s.test("Finds the first syntax error of the buffer.", c -> {
            c.due("of two", Situations.typed("sa0=0;q").firstError(), 4);
            c.due("again", Situations.typed("w;pg;q").firstError(), 3);
        });
        s.test("Returns the index of the first character that is a syntax error", c -> {
            c.due("the first", Situations.typed("q").firstError(), 0);
            c.due("the second", Situations.typed("wq").firstError(), 1);
            c.due("the last of 60", Situations.typed("w;".repeat(29) + "w=").firstError(), 59);
        });
        s.test("the length of the buffer if there is none.", c -> {
            c.due("empty", Situations.typed("").firstError(), 0);
            c.due("one", Situations.typed("c").firstError(), 1);
            c.due("whole orders", Situations.typed("cb1>f3*3;xa").firstError(), 11);
            c.due("60", Situations.typed("w;".repeat(30)).firstError(), 60);
        });
    }

    private static void run(Sentences s) {
        s.under("Promise 13: run");
        s.test("Does the orders in the buffer as speak(), copy(), play(), shave() and wind() do, one after the other", c -> {
            WaxCopies x = Situations.typed("sa0=9;ca0>f3*3;pf3;pf3;sb0=4;xb;w;sf0=1");
            WaxCopies twin = new WaxCopies();
            twin.speak(0, 9);
            twin.copy(0, 23, 3);
            twin.play(23);
            twin.play(23);
            twin.speak(4, 4);
            twin.shave(1);
            twin.wind();
            twin.speak(20, 1);
            c.due("done", x.run(), 8);
            c.dueText("the state", Situations.state(x), Situations.state(twin));
        });
        s.test("up to the first one that is refused (and counted so)", c -> {
            for (String refused : new String[] {"sa0=1", "ca1>b0*1", "ca0>a1*1", "pa1", "xb"}) {
                WaxCopies x = Situations.spoken(0, 9);
                Situations.type(x, "pa0;" + refused + ";pa0;w;" + refused);
                c.due("done ahead of " + refused, x.run(), 1);
                c.due("what was refused, " + refused, x.count(11), 1);
                c.due("the first play", x.count(6), 1);
                c.due("no wind", x.count(1), 85);
            }
            WaxCopies x = Situations.atMachine(100, 15);
            Situations.type(x, "sa0=1;sa1=1;w");
            c.due("run down on the way", x.run(), 1);
        });
        s.test("and clears the buffer.", c -> {
            WaxCopies x = Situations.typed("w");
            x.run();
            c.due("after all are done", x.clearBuffer(), 0);
            Situations.type(x, "pa0;w");
            x.run();
            c.due("after one is refused", x.clearBuffer(), 0);
            x.undo();
            c.due("after it is undone", x.clearBuffer(), 0);
        });
        s.test("Undoable, as one call, also if none is done.", c -> {
            Situations.undoes(c, "one order", WaxCopies::run);
            Situations.undoes(c, "many orders", x -> {
                Situations.type(x, ";pa0;pa0;pa0;pa0;pa0;xa;sa0=1;pa0");
                return x.run();
            });
            Situations.undoes(c, "none is done", x -> {
                x.clearBuffer();
                Situations.type(x, "xf;w");
                return x.run();
            });
        });
    }

    private static void runReturns(Sentences s) {
        s.test("Returns how many are done.", c -> {
            c.due("none", Situations.typed("pa0").run(), 0);
            c.due("none of two", Situations.typed("pa0;w").run(), 0);
            c.due("one of two", Situations.typed("w;pa0").run(), 1);
            c.due("one", Situations.typed("w").run(), 1);
            c.due("as many as the buffer can hold", Situations.typed("w;".repeat(29) + "w").run(), 30);
            WaxCopies x = Situations.spoken(0, 1);
            x.set(20);
            Situations.type(x, "pa0;pa0;pa0;pa0");
            c.due("a play that leaves no clearness is done", x.run(), 4);
        });
        s.test("Throws `IllegalArgumentException` if the buffer does not tell orders as a text", c -> {
            String[] texts = {"", "s", "sa0=", "ca0>b0*", "p", "pa", "x", ";", "w;", ";w", "w;;w", "ww", "q", "w;q", "sa0=0",
                "sa0=10", "ca0>b0*4", "pa4", "pg0", "xg", "xa0", "W", "w;".repeat(30)};
            for (String text : texts) {
                WaxCopies x = Situations.typed(text);
                String before = Situations.picture(x);
                c.dueThrow("run of " + text, ARGUMENT, () -> x.run());
                c.dueText("what is seen", Situations.picture(x), before);
                c.due("the buffer stays", x.clearBuffer(), text.length());
            }
        });
    }

    private static void keep(Sentences s) {
        s.under("Promise 14: keep");
        s.test("Takes a snapshot, in place of the one in the slot.", c -> {
            for (int slot = 0; slot < 2; slot++) {
                WaxCopies x = new WaxCopies();
                x.keep(1 - slot);
                x.speak(0, 4);
                x.keep(slot);
                x.speak(1, 5);
                x.keep(slot);
                x.shave(0);
                c.due("the second one", x.goBack(slot), 2);
                c.due("the other slot", x.goBack(1 - slot), 0);
            }
        });
        s.test("`slot`: 0 or 1", c -> Situations.takes(c, 0, 1, (x, slot) -> x.keep(slot)));
        s.test("Returns how many tracks are cut.", c -> {
            WaxCopies x = new WaxCopies();
            c.due("none", x.keep(0), 0);
            for (int track = 0; track < 24; track++) {
                x.wind();
                x.speak(track, 1);
                c.due("cut", x.keep(track % 2), track + 1);
            }
        });
        s.test("Throws `IllegalArgumentException` if slot is out of range",
            c -> Situations.throwsOutside(c, ARGUMENT, 0, 1, (x, slot) -> x.keep(slot)));
    }

    private static void goBack(Sentences s) {
        s.under("Promise 15: goBack");
        s.test("Goes back to a snapshot, which stays.", c -> {
            WaxCopies x = Situations.spoken(0, 4);
            x.keep(1);
            String kept = Situations.state(x);
            for (int time = 0; time < 3; time++) {
                x.shave(0);
                x.speak(9 + time, 2);
                x.goBack(1);
                c.dueText("back, time " + time, Situations.state(x), kept);
            }
        });
        s.test("Undoable.", c -> {
            Situations.undoes(c, "goBack", x -> x.goBack(0));
            Situations.undoes(c, "goBack to the other", x -> x.goBack(1));
        });
        s.test("`slot`: 0 or 1", c -> Situations.takes(c, 0, 1, (x, slot) -> x.goBack(slot)));
        s.test("Returns how many tracks are cut then.", c -> {
            WaxCopies x = new WaxCopies();
            x.keep(0);
            Situations.useUp(x, 0, 1, 1, 1, 1);
            x.keep(1);
            c.due("none", x.goBack(0), 0);
            c.due("four", x.goBack(1), 4);
        });
        s.test("Throws `IllegalArgumentException` if slot is out of range",
            c -> Situations.throwsOutside(c, ARGUMENT, 0, 1, (x, slot) -> x.goBack(slot)));
        s.test("Throws `IllegalStateException` if there is no snapshot in it", c -> {
            for (int slot = 0; slot < 2; slot++) {
                int empty = slot;
                WaxCopies x = Situations.spoken(0, 4);
                x.keep(1 - slot);
                String before = Situations.picture(x);
                c.dueThrow("slot " + slot, STATE, () -> x.goBack(empty));
                c.dueText("what is seen", Situations.picture(x), before);
                x.keep(slot);
                c.dueNoThrow("slot " + slot + " then", () -> x.goBack(empty));
            }
        });
    }

    private static void undo(Sentences s) {
        s.under("Promise 16: undo");
        s.test("Restores the latest saved state, and drops it.", c -> {
            WaxCopies x = new WaxCopies();
            String[] states = new String[6];
            for (int i = 0; i < 6; i++) {
                states[i] = Situations.state(x);
                x.speak(4 * i, i + 1);
            }
            for (int i = 5; i >= 0; i--) {
                x.undo();
                c.dueText("as before " + i, Situations.state(x), states[i]);
                c.due("saved states", x.count(12), i);
            }
        });
        s.test("Returns how many saved states are left.", c -> {
            WaxCopies x = new WaxCopies();
            x.wind();
            c.due("the only one", x.undo(), 0);
            for (int i = 0; i < 9; i++) {
                x.wind();
            }
            for (int left = 5; left >= 0; left--) {
                c.due("left", x.undo(), left);
            }
        });
        s.test("Throws `IllegalStateException` if there is none", c -> {
            WaxCopies x = Situations.typed("w");
            c.dueThrow("new", STATE, () -> x.undo());
            x.speak(0, 4);
            x.undo();
            String before = Situations.picture(x);
            c.dueThrow("all are undone", STATE, () -> x.undo());
            c.dueText("what is seen", Situations.picture(x), before);
            x.wind();
            c.due("one more", x.undo(), 0);
        });
    }
}
