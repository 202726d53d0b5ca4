import java.util.ArrayDeque;
import java.util.ArrayList;
import java.util.Deque;
import java.util.HashSet;
import java.util.List;
import java.util.Set;
import java.util.regex.Matcher;
import java.util.regex.Pattern;

/**
 * Long runs of calls on the program and on a second, plain writing of the document, made of other
 * parts on purpose (copied objects, a regular expression, sets), so that a slip shows as a difference.
 */
public final class ModelTest {
    private static final int RUNS = 240;
    private static final int CALLS = 512;

    private static final Checks c = new Checks("ModelTest");
    private static long seed;

    public static void main(String[] args) {
        for (int run = 0; run < RUNS; run++) {
            seed = 77 + 1000003L * run;
            compareRun(run);
        }
        c.end();
    }

    private static int pick(int below) {
        seed = seed * 6364136223846793005L + 1442695040888963407L;
        return (int) ((seed >>> 33) % below);
    }

    private static void compareRun(int run) {
        WaxCopies x = new WaxCopies();
        Model m = new Model();
        int calls = 0;
        while (calls < CALLS - 2) {
            int[] call = anyCall(run, m);
            String told = "run " + run + ", call " + calls + ": " + java.util.Arrays.toString(call);
            c.due(told, onProgram(x, call), onModel(m, call));
            c.due(told + ", then digest()", x.digest(), m.digest());
            calls += 2;
        }
    }

    /** An own number for each exception: no answer of an int is as low. */
    private static long number(RuntimeException e) {
        if (e.getClass() == IndexOutOfBoundsException.class) {
            return Long.MIN_VALUE;
        }
        if (e.getClass() == IllegalArgumentException.class) {
            return Long.MIN_VALUE + 1;
        }
        if (e.getClass() == IllegalStateException.class) {
            return Long.MIN_VALUE + 2;
        }
        return Long.MIN_VALUE + 3;
    }

    private static int anyTrack(Model m) {
        if (pick(60) == 0) {
            return pick(2) == 0 ? -1 : 24;
        }
        return pick(24);
    }

    private static int anyCutTrack(Model m) {
        for (int i = 0; i < 30; i++) {
            int track = pick(24);
            if (m.now.tracks[track] != null) {
                return track;
            }
        }
        return anyTrack(m);
    }

    private static int anySmoothTrack(Model m) {
        for (int i = 0; i < 30; i++) {
            int track = pick(24);
            if (m.now.tracks[track] == null) {
                return track;
            }
        }
        return anyTrack(m);
    }

    private static int around(int low, int high) {
        return pick(40) == 0 ? (pick(2) == 0 ? low - 1 : high + 1) : low + pick(high - low + 1);
    }

    /** The number of the method, then its arguments; each run has methods that it likes more. */
    private static int[] anyCall(int run, Model m) {
        if (m.now.spring < 20 && pick(3) > 0) {
            return new int[] {4};
        }
        if (m.buffer.isEmpty() && pick(6) == 0) {
            m.typing = anyText(m);
        }
        if (!m.typing.isEmpty() && pick(10) > 0) {
            int code = m.typing.charAt(0);
            m.typing = m.typing.substring(1);
            return new int[] {8, code};
        }
        if (m.buffer.length() > 0 && m.typing.isEmpty() && pick(3) == 0) {
            return new int[] {pick(6) == 0 ? 9 : pick(4) == 0 ? 10 : 11};
        }
        int liked = pick(run % 3 == 0 ? 40 : 26);
        switch (liked) {
            case 0: case 1: return new int[] {0, anySmoothTrack(m), around(1, 9)};
            case 2: return new int[] {0, anyTrack(m), around(1, 9)};
            case 3: case 4: case 5: case 6: return new int[] {1, anyCutTrack(m), anySmoothTrack(m), around(1, 3)};
            case 7: return new int[] {1, anyTrack(m), anyTrack(m), around(1, 3)};
            case 8: return new int[] {2, anyCutTrack(m)};
            case 9: return new int[] {2, anyTrack(m)};
            case 10: return new int[] {3, around(0, 5)};
            case 11: return new int[] {pick(4) == 0 ? 5 : 4};
            case 12: return new int[] {6, around(0, 5), pick(2) == 0 ? around(0, 12) : around(0, 100)};
            case 13: return new int[] {7, around(0, 20)};
            case 14: return new int[] {8, around(33, 126)};
            case 15: return new int[] {12, around(0, 1)};
            case 16: return new int[] {13, around(0, 1)};
            case 17: return new int[] {14};
            case 18: return new int[] {15, anyTrack(m), around(0, 6)};
            case 19: return new int[] {16, around(0, 5), around(0, 4)};
            case 20: return new int[] {17, around(0, 12)};
            case 21: return new int[] {18, anyTrack(m), around(1, 9)};
            case 22: return new int[] {19, anyCutTrack(m), anyTrack(m), around(1, 3)};
            case 23: return new int[] {20, anyCutTrack(m), around(1, 5), around(0, 1)};
            case 24: return new int[] {21, anyTrack(m)};
            case 25: return new int[] {10};
            default: return new int[] {1, anyCutTrack(m), anySmoothTrack(m), around(1, 3)};
        }
    }

    private static String anyText(Model m) {
        StringBuilder text = new StringBuilder();
        int orders = 1 + pick(pick(4) == 0 ? 9 : 3);
        for (int i = 0; i < orders; i++) {
            text.append(i == 0 ? "" : ";").append(anyOrder(m));
        }
        if (pick(4) == 0) {
            int at = pick(text.length());
            text.setCharAt(at, "sscpxwabfg01349=>*;~".charAt(pick(20)));
        }
        if (pick(8) == 0) {
            text.setLength(pick(text.length() + 1));
        }
        return text.toString();
    }

    private static String anyOrder(Model m) {
        switch (pick(6)) {
            case 0: return "s" + named(anySmoothTrack(m)) + "=" + (1 + pick(9));
            case 1: return "c" + named(anyCutTrack(m)) + ">" + named(anySmoothTrack(m)) + "*" + (1 + pick(3));
            case 2: return "p" + named(anyCutTrack(m));
            case 3: return pick(4) == 0 ? "x" + (char) ('a' + pick(6)) : "w";
            case 4: return "s" + named(pick(24)) + "=" + (1 + pick(9));
            default: return "w";
        }
    }

    private static String named(int track) {
        int named = track < 0 || track > 23 ? 0 : track;
        return "" + (char) ('a' + named / 4) + (char) ('0' + named % 4);
    }

    private static long onProgram(WaxCopies x, int[] a) {
        try {
            switch (a[0]) {
                case 0: return x.speak(a[1], a[2]);
                case 1: return x.copy(a[1], a[2], a[3]);
                case 2: return x.play(a[1]);
                case 3: return x.shave(a[1]);
                case 4: return x.wind();
                case 5: return x.sharpen();
                case 6: return x.renew(a[1], a[2]);
                case 7: return x.set(a[1]);
                case 8: return x.append(a[1]);
                case 9: return x.clearBuffer();
                case 10: return x.firstError();
                case 11: return x.run();
                case 12: return x.keep(a[1]);
                case 13: return x.goBack(a[1]);
                case 14: return x.undo();
                case 15: return x.trackOf(a[1], a[2]);
                case 16: return x.cylinderOf(a[1], a[2]);
                case 17: return x.count(a[1]);
                case 18: return x.whyNot(a[1], a[2]);
                case 19: return x.ifCopied(a[1], a[2], a[3]);
                case 20: return x.chain(a[1], a[2], a[3]);
                default: return x.daughters(a[1]);
            }
        } catch (RuntimeException e) {
            return number(e);
        }
    }

    private static long onModel(Model m, int[] a) {
        try {
            switch (a[0]) {
                case 0: m.in(a[1], 24); m.arg(a[2], 1, 9); m.save(); return m.speak(a[1], a[2]);
                case 1: m.in(a[1], 24); m.in(a[2], 24); m.arg(a[3], 1, 3); m.save(); return m.copy(a[1], a[2], a[3]);
                case 2: m.in(a[1], 24); m.save(); return m.play(a[1]);
                case 3: m.in(a[1], 6); m.save(); return m.shave(a[1]);
                case 4: m.save(); return m.wind();
                case 5: m.save(); return m.sharpen();
                case 6: m.in(a[1], 6); m.arg(a[2], 0, 100); m.save(); return m.renew(a[1], a[2]);
                case 7: m.arg(a[1], 0, 20); m.save(); return m.set(a[1]);
                case 8: m.arg(a[1], 33, 126); return m.append(a[1]);
                case 9: return m.clearBuffer();
                case 10: return m.firstError();
                case 11: return m.run();
                case 12: m.arg(a[1], 0, 1); return m.keep(a[1]);
                case 13: m.arg(a[1], 0, 1); return m.goBack(a[1]);
                case 14: return m.undo();
                case 15: m.in(a[1], 24); m.arg(a[2], 0, 6); return m.trackOf(a[1], a[2]);
                case 16: m.in(a[1], 6); m.arg(a[2], 0, 4); return m.cylinderOf(a[1], a[2]);
                case 17: m.arg(a[1], 0, 12); return m.count(a[1]);
                case 18: m.in(a[1], 24); m.arg(a[2], 1, 9); return m.whyNot(a[1], a[2]);
                case 19: m.in(a[1], 24); m.in(a[2], 24); m.arg(a[3], 1, 3); return m.ifCopied(a[1], a[2], a[3]);
                case 20: m.in(a[1], 24); m.arg(a[2], 1, 5); m.arg(a[3], 0, 1); return m.chain(a[1], a[2]);
                default: m.in(a[1], 24); return m.daughters(a[1]);
            }
        } catch (RuntimeException e) {
            return number(e);
        }
    }

    /** A cut track; it is never changed but by plays, and copied with its state. */
    private static final class Cut {
        int depth;
        int clear;
        int flutter;
        int generation;
        int mother = -1;
        int first;
        int plays;

        Cut same() {
            Cut o = new Cut();
            o.depth = depth;
            o.clear = clear;
            o.flutter = flutter;
            o.generation = generation;
            o.mother = mother;
            o.first = first;
            o.plays = plays;
            return o;
        }
    }

    private static final class State {
        Cut[] tracks = new Cut[24];
        int[] layers = {60, 60, 60, 60, 60, 60};
        int[] shaved = new int[6];
        int sharp = 100;
        int spring = 100;
        int wear = 3;
        /** count(4), count(5), count(6), count(8), count(9), count(10), count(11) at their numbers. */
        int[] sums = {0, 0, 0, 0, 0, 0, 0, 0, 0, 360, 0, 0};

        State same() {
            State o = new State();
            for (int i = 0; i < 24; i++) {
                o.tracks[i] = tracks[i] == null ? null : tracks[i].same();
            }
            o.layers = layers.clone();
            o.shaved = shaved.clone();
            o.sharp = sharp;
            o.spring = spring;
            o.wear = wear;
            o.sums = sums.clone();
            return o;
        }
    }

    private static final class Model {
        private static final String ORDER = "(s[a-f][0-3]=[1-9]|c[a-f][0-3]>[a-f][0-3]\\*[1-3]|p[a-f][0-3]|x[a-f]|w)";
        private static final Pattern ORDERS = Pattern.compile(ORDER + "(;" + ORDER + ")*");

        State now = new State();
        State[] slots = new State[2];
        Deque<State> saved = new ArrayDeque<>();
        String buffer = "";
        String typing = "";

        void in(int at, int end) {
            if (at < 0 || at >= end) {
                throw new IndexOutOfBoundsException();
            }
        }

        void arg(int value, int low, int high) {
            if (value < low || value > high) {
                throw new IllegalArgumentException();
            }
        }

        void save() {
            saved.addLast(now.same());
            if (saved.size() > 6) {
                saved.removeFirst();
            }
        }

        int blunt() {
            return (100 - now.sharp) / 4;
        }

        int trembling() {
            return Math.max(0, (50 - now.spring) / 5);
        }

        int whyNot(int track, int loudness) {
            return now.tracks[track] != null ? 1 : now.layers[track / 4] < loudness ? 2 : now.spring < 10 ? 3 : 0;
        }

        int speak(int track, int loudness) {
            int why = whyNot(track, loudness);
            if (why > 0) {
                now.sums[11]++;
                return why;
            }
            Cut cut = new Cut();
            cut.depth = loudness;
            cut.clear = 40 + 5 * loudness - blunt();
            cut.flutter = trembling();
            putOn(track, cut, 10, 4);
            return 0;
        }

        void putOn(int track, Cut cut, int spring, int sum) {
            cut.first = cut.clear;
            now.tracks[track] = cut;
            now.sharp = Math.max(0, now.sharp - cut.depth);
            now.spring -= spring;
            now.sums[sum]++;
        }

        int deep(int depth, int lever) {
            int[] rows = {0, depth / 2, depth, depth + depth / 2};
            return Math.max(1, Math.min(9, rows[lever]));
        }

        int whyNoCopy(int mother, int track, int lever) {
            Cut of = now.tracks[mother];
            if (of == null) {
                return 1;
            }
            if (now.tracks[track] != null) {
                return 2;
            }
            if (mother / 4 == track / 4) {
                return 3;
            }
            return now.layers[track / 4] < deep(of.depth, lever) ? 4 : now.spring < 20 ? 5 : 0;
        }

        int ifCopied(int mother, int track, int lever) {
            int why = whyNoCopy(mother, track, lever);
            int[] loss = {0, 12, 6, 4};
            return why > 0 ? -why : Math.max(0, now.tracks[mother].clear - loss[lever] - blunt() - trembling());
        }

        int copy(int mother, int track, int lever) {
            int why = whyNoCopy(mother, track, lever);
            if (why > 0) {
                now.sums[11]++;
                return why;
            }
            Cut of = now.tracks[mother];
            Cut cut = new Cut();
            cut.depth = deep(of.depth, lever);
            cut.clear = ifCopied(mother, track, lever);
            cut.flutter = Math.min(20, of.flutter + trembling());
            cut.generation = of.generation + 1;
            cut.mother = mother;
            putOn(track, cut, 20, 5);
            return 0;
        }

        int play(int track) {
            Cut cut = now.tracks[track];
            if (cut == null || now.spring < 5) {
                now.sums[11]++;
                return cut == null ? 1 : 2;
            }
            cut.clear = Math.max(0, cut.clear - now.wear);
            cut.plays++;
            now.spring -= 5;
            now.sums[6]++;
            return 10 + cut.clear;
        }

        int shave(int cylinder) {
            int off = cylinderOf(cylinder, 2);
            if (cylinderOf(cylinder, 1) == 0) {
                now.sums[11]++;
                return -1;
            }
            now.layers[cylinder] -= off;
            now.sums[8] += off;
            now.shaved[cylinder]++;
            for (int i = 0; i < 4; i++) {
                now.tracks[4 * cylinder + i] = null;
            }
            return off;
        }

        int wind() {
            int by = 100 - now.spring;
            now.spring = 100;
            return by;
        }

        int sharpen() {
            int by = 100 - now.sharp;
            now.sharp = 100;
            return by;
        }

        int renew(int cylinder, int layers) {
            int old = now.layers[cylinder];
            now.sums[10] += old;
            now.sums[9] += layers;
            now.layers[cylinder] = layers;
            now.shaved[cylinder] = 0;
            for (int i = 0; i < 4; i++) {
                now.tracks[4 * cylinder + i] = null;
            }
            return old;
        }

        int set(int value) {
            int old = now.wear;
            now.wear = value;
            return old;
        }

        int append(int code) {
            if (buffer.length() == 60) {
                throw new IllegalStateException();
            }
            buffer += (char) code;
            return buffer.length();
        }

        int clearBuffer() {
            int had = buffer.length();
            buffer = "";
            return had;
        }

        int firstError() {
            for (int i = 1; i <= buffer.length(); i++) {
                Matcher start = ORDERS.matcher(buffer.substring(0, i));
                if (!start.matches() && !start.hitEnd()) {
                    return i - 1;
                }
            }
            return buffer.length();
        }

        int run() {
            if (!ORDERS.matcher(buffer).matches()) {
                throw new IllegalArgumentException();
            }
            save();
            int done = 0;
            for (String order : buffer.split(";")) {
                if (!does(order)) {
                    break;
                }
                done++;
            }
            buffer = "";
            return done;
        }

        boolean does(String o) {
            if (o.equals("w")) {
                wind();
                return true;
            }
            if (o.startsWith("x")) {
                return shave("abcdef".indexOf(o.charAt(1))) > 0;
            }
            int track = "abcdef".indexOf(o.charAt(1)) * 4 + "0123".indexOf(o.charAt(2));
            if (o.startsWith("p")) {
                return play(track) > 2;
            }
            int last = Integer.parseInt(o.substring(o.length() - 1));
            if (o.startsWith("s")) {
                return speak(track, last) == 0;
            }
            return copy(track, "abcdef".indexOf(o.charAt(4)) * 4 + "0123".indexOf(o.charAt(5)), last) == 0;
        }

        int keep(int slot) {
            slots[slot] = now.same();
            return count(3);
        }

        int goBack(int slot) {
            if (slots[slot] == null) {
                throw new IllegalStateException();
            }
            save();
            now = slots[slot].same();
            return count(3);
        }

        int undo() {
            if (saved.isEmpty()) {
                throw new IllegalStateException();
            }
            now = saved.removeLast();
            return saved.size();
        }

        int trackOf(int track, int what) {
            Cut cut = now.tracks[track];
            if (cut == null) {
                return what == 0 ? 0 : -1;
            }
            int[] all = {cut.depth, cut.clear, cut.flutter, cut.generation, cut.mother, cut.first, cut.plays};
            return all[what];
        }

        int cylinderOf(int cylinder, int what) {
            int cuts = 0;
            int deepest = 0;
            int best = -1;
            for (int i = 4 * cylinder + 3; i >= 4 * cylinder; i--) {
                Cut cut = now.tracks[i];
                if (cut != null) {
                    cuts++;
                    deepest = Math.max(deepest, cut.depth);
                    best = best < 0 || cut.clear >= now.tracks[best].clear ? i : best;
                }
            }
            int[] all = {now.layers[cylinder], cuts, deepest, best, now.shaved[cylinder]};
            return all[what];
        }

        int count(int what) {
            switch (what) {
                case 0: return now.sharp;
                case 1: return now.spring;
                case 2: return trembling();
                case 3: return cuts().size();
                case 7: return now.sums[9] - now.sums[8] - now.sums[10];
                case 12: return saved.size();
                default: return now.sums[what];
            }
        }

        List<Cut> cuts() {
            List<Cut> cuts = new ArrayList<>();
            for (Cut cut : now.tracks) {
                if (cut != null) {
                    cuts.add(cut);
                }
            }
            return cuts;
        }

        /** Every row of levers, one after the other, without depths and sharpnesses in common. */
        int chain(int track, int copies) {
            if (now.tracks[track] == null) {
                return -1;
            }
            int best = -1;
            for (int row = 0; row < Math.pow(3, copies); row++) {
                int depth = now.tracks[track].depth;
                int clear = now.tracks[track].clear;
                int sharp = now.sharp;
                for (int i = 0, rest = row; i < copies; i++, rest /= 3) {
                    int lever = 1 + rest % 3;
                    clear = Math.max(0, clear - 12 / lever - (100 - sharp) / 4);
                    depth = deep(depth, lever);
                    sharp = Math.max(0, sharp - depth);
                }
                best = Math.max(best, clear);
            }
            return best;
        }

        int clearest() {
            int best = -1;
            long most = -1;
            for (int i = 0; i < 24; i++) {
                Cut cut = now.tracks[i];
                long worth = cut == null ? -1 : cut.clear * 1000L + (100 - cut.flutter);
                if (worth > most) {
                    most = worth;
                    best = i;
                }
            }
            return best;
        }

        /** Grows a set of those whose mother is in it, until it grows no more. */
        int daughters(int track) {
            Set<Integer> family = new HashSet<>();
            family.add(track);
            boolean grown = true;
            while (grown) {
                grown = false;
                for (int i = 0; i < 24; i++) {
                    Cut cut = now.tracks[i];
                    grown |= cut != null && family.contains(cut.mother) && family.add(i);
                }
            }
            return family.size() - 1;
        }

        long digest() {
            List<Long> all = new ArrayList<>();
            for (int i = 0; i < 13; i++) {
                all.add((long) count(i));
            }
            all.add((long) now.wear);
            for (int t = 0; t < 24; t++) {
                for (int i = 0; i < 7; i++) {
                    all.add((long) trackOf(t, i));
                }
                all.add((long) whyNot(t, 5));
                all.add((long) daughters(t));
                long one = chain(t, 1);
                long three = chain(t, 3);
                all.addAll(List.of(one, one, three, three));
            }
            for (int z = 0; z < 6; z++) {
                for (int i = 0; i < 5; i++) {
                    all.add((long) cylinderOf(z, i));
                }
            }
            all.addAll(List.of((long) ifCopied(0, 4, 2), (long) ifCopied(4, 9, 2), (long) ifCopied(9, 0, 2)));
            all.add((long) clearest());
            int depths = cuts().stream().mapToInt(k -> k.depth).sum();
            int clears = cuts().stream().mapToInt(k -> k.clear).sum();
            all.add((long) Float.floatToIntBits(cuts().isEmpty() ? 0.0f : (float) depths / cuts().size()));
            all.add(Double.doubleToLongBits(cuts().isEmpty() ? 0.0 : (double) clears / (100 * cuts().size())));
            all.add(slots[0] == null ? 0L : 1L);
            all.add(slots[1] == null ? 0L : 1L);
            all.add((long) buffer.length());
            buffer.chars().forEach(code -> all.add((long) code));
            long hash = 3559;
            for (long value : all) {
                hash = hash * 31 + value;
            }
            return hash;
        }
    }
}
