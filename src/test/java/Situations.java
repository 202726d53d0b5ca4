import java.util.ArrayList;
import java.util.List;

/** Objects in states that the tests need, and what can be seen of a state. */
final class Situations {
    static final Class<IndexOutOfBoundsException> INDEX = IndexOutOfBoundsException.class;
    static final Class<IllegalArgumentException> ARGUMENT = IllegalArgumentException.class;
    static final Class<IllegalStateException> STATE = IllegalStateException.class;

    interface On {
        long answer(WaxCopies x);
    }

    interface With {
        long answer(WaxCopies x, int value);
    }

    private Situations() {
    }

    static void type(WaxCopies x, String text) {
        for (int i = 0; i < text.length(); i++) {
            x.append(text.charAt(i));
        }
    }

    static WaxCopies typed(String text) {
        WaxCopies x = new WaxCopies();
        type(x, text);
        return x;
    }

    /** A new object with one track that is spoken. */
    static WaxCopies spoken(int track, int loudness) {
        WaxCopies x = new WaxCopies();
        x.speak(track, loudness);
        return x;
    }

    /** An object with a bit of all: copies, something worn, shaved and refused, both slots, saved states, a text. */
    static WaxCopies used() {
        WaxCopies x = new WaxCopies();
        x.speak(0, 9);
        x.keep(0);
        x.copy(0, 4, 2);
        x.play(4);
        x.speak(8, 3);
        x.keep(1);
        x.shave(2);
        x.play(8);
        x.renew(3, 40);
        x.set(7);
        x.speak(9, 4);
        type(x, "sa1=2;w");
        return x;
    }

    /**
     * Brings the point and the spring to where they are due. The last cylinder is renewed by it and
     * its last track is cut; the others stay as they are.
     */
    static void machineAt(WaxCopies x, int sharpness, int spring) {
        x.sharpen();
        for (int i = 0; i < 20 && x.count(0) > sharpness + 1; i++) {
            x.wind();
            x.renew(5, 100);
            x.speak(23, Math.min(9, x.count(0) - sharpness - 1));
        }
        x.wind();
        x.renew(5, 100);
        x.speak(23, 1);
        if (sharpness == 100) {
            x.sharpen();
        }
        x.wind();
        for (int i = 0; i < 20 && x.count(1) > spring; i++) {
            x.play(23);
        }
        if (x.count(0) != sharpness || x.count(1) != spring) {
            throw new IllegalStateException("the machine is at " + x.count(0) + " and " + x.count(1));
        }
    }

    static WaxCopies atMachine(int sharpness, int spring) {
        WaxCopies x = new WaxCopies();
        machineAt(x, sharpness, spring);
        return x;
    }

    /** A spoken track that is as clear as is due, 0 to 85, with the depth 1 up to 45. */
    static void speakAsClear(WaxCopies x, int track, int clearness) {
        int loudness = clearness <= 45 ? 1 : Math.min(9, (clearness - 40 + 4) / 5);
        x.sharpen();
        x.wind();
        x.speak(track, loudness);
        x.sharpen();
        int wear = x.setting();
        for (int i = 0; i < 20 && x.trackOf(track, 1) > clearness; i++) {
            x.set(Math.min(20, x.trackOf(track, 1) - clearness));
            x.wind();
            x.play(track);
        }
        x.set(wear);
        x.wind();
    }

    static void useUp(WaxCopies x, int cylinder, int... depths) {
        for (int i = 0; i < depths.length; i++) {
            x.wind();
            x.speak(4 * cylinder + i, depths[i]);
        }
    }

    /** All that a snapshot and a saved state hold, as the looks tell it. */
    static String state(WaxCopies x) {
        StringBuilder text = new StringBuilder();
        for (int i = 0; i < 12; i++) {
            text.append(x.count(i)).append(' ');
        }
        text.append("setting ").append(x.setting());
        for (int cylinder = 0; cylinder < 6; cylinder++) {
            text.append(" c").append(cylinder);
            for (int i = 0; i < 5; i++) {
                text.append(' ').append(x.cylinderOf(cylinder, i));
            }
        }
        for (int track = 0; track < 24; track++) {
            text.append(" t").append(track);
            for (int i = 0; i < 7; i++) {
                text.append(' ').append(x.trackOf(track, i));
            }
        }
        return text.toString();
    }

    /** All that can be seen without a change: the state, the buffer, the slots that are taken, the saved states. */
    static String picture(WaxCopies x) {
        return state(x) + " error " + x.firstError() + " saved " + x.count(12) + " digest " + x.digest();
    }

    /** Undoes and goes back on both objects, as long as it goes, and compares what is seen then. */
    static void samePast(Checks c, String what, WaxCopies x, WaxCopies twin) {
        for (int i = 0; i < 7 && twin.count(12) > 0; i++) {
            c.due(what + ": undo", x.undo(), twin.undo());
            c.dueText(what + ": undone", picture(x), picture(twin));
        }
        c.due(what + ": saved states", x.count(12), twin.count(12));
        for (int slot = 0; slot < 2; slot++) {
            c.due(what + ": goBack", x.goBack(slot), twin.goBack(slot));
            c.dueText(what + ": gone back", picture(x), picture(twin));
        }
    }

    static void takes(Checks c, int low, int high, With call) {
        for (int value = low; value <= high; value++) {
            WaxCopies x = used();
            int taken = value;
            c.dueNoThrow("with " + value, () -> call.answer(x, taken));
        }
    }

    static void throwsOutside(Checks c, Class<? extends RuntimeException> want, int low, int high, With call) {
        int[] values = {low - 1, high + 1, low - 2, high + 2, -1000, 1000, Integer.MIN_VALUE, Integer.MAX_VALUE};
        for (int value : values) {
            WaxCopies x = used();
            String before = picture(x);
            c.dueThrow("with " + value, want, () -> call.answer(x, value));
            c.dueText("with " + value + ": what is seen", picture(x), before);
        }
    }

    /** The call saves one state, from before it; undoing it brings all back but the buffer. */
    static void undoes(Checks c, String what, On call) {
        WaxCopies x = used();
        x.undo();
        x.undo();
        String before = state(x);
        c.due(what + ": saved before", x.count(12), 4);
        call.answer(x);
        c.due(what + " saves a state", x.count(12), 5);
        c.due(what + ": undo", x.undo(), 4);
        c.dueText(what + " undone", state(x), before);
    }

    /** The document's list for the digest; what is in the slots and the buffer is told by the caller. */
    static List<Long> listed(WaxCopies x, int slot0, int slot1, String buffer) {
        List<Long> values = new ArrayList<>();
        for (int i = 0; i <= 12; i++) {
            values.add((long) x.count(i));
        }
        values.add((long) x.setting());
        for (int track = 0; track < 24; track++) {
            for (int i = 0; i <= 6; i++) {
                values.add((long) x.trackOf(track, i));
            }
            values.add((long) x.whyNot(track, 5));
            values.add((long) x.daughters(track));
            values.add((long) x.chain(track, 1, 0));
            values.add((long) x.chain(track, 1, 1));
            values.add((long) x.chain(track, 3, 0));
            values.add((long) x.chain(track, 3, 1));
        }
        for (int cylinder = 0; cylinder < 6; cylinder++) {
            for (int i = 0; i <= 4; i++) {
                values.add((long) x.cylinderOf(cylinder, i));
            }
        }
        values.add((long) x.ifCopied(0, 4, 2));
        values.add((long) x.ifCopied(4, 9, 2));
        values.add((long) x.ifCopied(9, 0, 2));
        values.add((long) x.clearest());
        values.add((long) Float.floatToIntBits(x.meanDepth()));
        values.add(Double.doubleToLongBits(x.clearShare()));
        values.add((long) slot0);
        values.add((long) slot1);
        values.add((long) buffer.length());
        for (int i = 0; i < buffer.length(); i++) {
            values.add((long) buffer.charAt(i));
        }
        return values;
    }

    static long hashed(List<Long> values) {
        long hash = 3559;
        for (long value : values) {
            hash = 31 * hash + value;
        }
        return hash;
    }
}
