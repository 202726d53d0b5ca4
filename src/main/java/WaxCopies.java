/** A wax cylinder talker; ../shared/DOC.md tells, promise by promise, what it does. */
public final class WaxCopies {
    public static final int NONE = -1;

    private static final int CYLINDERS = 6;
    private static final int TRACKS_EACH = 4;
    private static final int TRACKS = CYLINDERS * TRACKS_EACH;
    private static final int LAYERS_AT_FIRST = 60;
    private static final int MOST_LAYERS = 100;
    private static final int SHARPEST = 100;
    private static final int WOUND_UP = 100;
    private static final int DEEPEST = 9;
    private static final int MOST_FLUTTER = 20;
    private static final int LEVERS = 3;
    private static final int WEAR_AT_FIRST = 3;
    private static final int MOST_WEAR = 20;
    private static final int SPEAKING_TAKES = 10;
    private static final int PLAYING_TAKES = 5;
    private static final int COPYING_TAKES = 20;
    /** What a play answers beyond the clearness; a smaller answer is a reason. */
    private static final int PLAYED = 10;
    private static final int SLOTS = 2;
    private static final int MOST_SAVED = 6;
    private static final int MOST_COPIES = 5;
    private static final int TRACK_PROPERTIES = 7;
    private static final int CYLINDER_PROPERTIES = 5;
    private static final int NUMBERS = 13;
    private static final int COUNT_OF_SAVED = 12;

    private final Wax now = new Wax();
    private final Wax[] slots = new Wax[SLOTS];
    private final boolean[] slotTaken = new boolean[SLOTS];
    private final Wax[] saved = new Wax[MOST_SAVED];
    private int savedStates = 0;
    private final Orders orders = new Orders();
    private final Steps steps = new Steps();

    public WaxCopies() {
        // every row that a call may need is made here, so that no call makes one
        for (int i = 0; i < SLOTS; i++) {
            slots[i] = new Wax();
        }
        for (int i = 0; i < MOST_SAVED; i++) {
            saved[i] = new Wax();
        }
    }

    // ---- cuts, plays

    public int speak(int track, int loudness) throws IndexOutOfBoundsException, IllegalArgumentException {
        checkTrack(track);
        checkLoudness(loudness);
        saveState();
        return now.speakOnto(track, loudness);
    }

    public int copy(int mother, int track, int lever) throws IndexOutOfBoundsException, IllegalArgumentException {
        checkTrack(mother);
        checkTrack(track);
        checkLever(lever);
        saveState();
        return now.copyOnto(mother, track, lever);
    }

    public int play(int track) throws IndexOutOfBoundsException {
        checkTrack(track);
        saveState();
        return now.playTrack(track);
    }

    public int shave(int cylinder) throws IndexOutOfBoundsException {
        checkCylinder(cylinder);
        saveState();
        return now.shaveCylinder(cylinder);
    }

    // ---- the machine

    public int wind() {
        saveState();
        return now.windUp();
    }

    public int sharpen() {
        saveState();
        return now.sharpenPoint();
    }

    public int renew(int cylinder, int layers) throws IndexOutOfBoundsException, IllegalArgumentException {
        checkCylinder(cylinder);
        if (layers < 0 || layers > MOST_LAYERS) {
            throw new IllegalArgumentException("layers are 0 to 100");
        }
        saveState();
        return now.renewCylinder(cylinder, layers);
    }

    public int set(int value) throws IllegalArgumentException {
        if (value < 0 || value > MOST_WEAR) {
            throw new IllegalArgumentException("the setting is 0 to 20");
        }
        saveState();
        int previous = now.wear;
        now.wear = value;
        return previous;
    }

    // ---- texts, snapshots

    public int append(int code) throws IllegalArgumentException, IllegalStateException {
        if (code < 33 || code > 126) {
            throw new IllegalArgumentException("a character's code is 33 to 126");
        }
        if (orders.isFull()) {
            throw new IllegalStateException("the buffer is full");
        }
        return orders.take((char) code);
    }

    public int clearBuffer() {
        return orders.drop();
    }

    public int firstError() {
        return orders.firstWrong();
    }

    public int run() throws IllegalArgumentException {
        if (!orders.areWhole()) {
            throw new IllegalArgumentException("the buffer does not tell orders");
        }
        saveState();
        int done = doOrders();
        orders.drop();
        return done;
    }

    public int keep(int slot) throws IllegalArgumentException {
        checkSlot(slot);
        slots[slot].takeOver(now);
        slotTaken[slot] = true;
        return now.cutTracks();
    }

    public int goBack(int slot) throws IllegalArgumentException, IllegalStateException {
        checkSlot(slot);
        if (!slotTaken[slot]) {
            throw new IllegalStateException("there is no snapshot in the slot");
        }
        saveState();
        now.takeOver(slots[slot]);
        return now.cutTracks();
    }

    public int undo() throws IllegalStateException {
        if (savedStates <= 0) {
            throw new IllegalStateException("there is no saved state");
        }
        savedStates--;
        now.takeOver(saved[savedStates]);
        return savedStates;
    }

    // ---- looks; nothing is changed

    public int trackOf(int track, int what) throws IndexOutOfBoundsException, IllegalArgumentException {
        checkTrack(track);
        checkWhat(what, TRACK_PROPERTIES);
        return now.trackProperty(track, what);
    }

    public int cylinderOf(int cylinder, int what) throws IndexOutOfBoundsException, IllegalArgumentException {
        checkCylinder(cylinder);
        checkWhat(what, CYLINDER_PROPERTIES);
        return now.cylinderProperty(cylinder, what);
    }

    public int count(int what) throws IllegalArgumentException {
        checkWhat(what, NUMBERS);
        return what == COUNT_OF_SAVED ? savedStates : now.number(what);
    }

    public int setting() {
        return now.wear;
    }

    // ---- what would be; nothing is changed

    public int whyNot(int track, int loudness) throws IndexOutOfBoundsException, IllegalArgumentException {
        checkTrack(track);
        checkLoudness(loudness);
        return now.reasonNotToSpeak(track, loudness);
    }

    public int ifCopied(int mother, int track, int lever) throws IndexOutOfBoundsException, IllegalArgumentException {
        checkTrack(mother);
        checkTrack(track);
        checkLever(lever);
        int reason = now.reasonNotToCopy(mother, track, lever);
        return reason == 0 ? now.clearnessIfCopied(mother, lever) : -reason;
    }

    public int chain(int track, int copies, int what) throws IndexOutOfBoundsException, IllegalArgumentException {
        checkTrack(track);
        if (copies < 1 || copies > MOST_COPIES) {
            throw new IllegalArgumentException("copies are 1 to 5");
        }
        checkWhat(what, 2);
        if (!now.isCut(track)) {
            return NONE;
        }
        int depth = now.depth[track];
        int clearness = now.clearness[track];
        if (what == 0) {
            return steps.clearestAfter(copies, depth, clearness, now.sharpness);
        }
        return clearestOfAllLevers(copies, depth, clearness, now.sharpness);
    }

    public int clearest() {
        return now.clearestTrack();
    }

    public int daughters(int track) throws IndexOutOfBoundsException {
        checkTrack(track);
        return now.descendants(track);
    }

    public float meanDepth() {
        int cut = now.cutTracks();
        return cut <= 0 ? 0.0f : (float) now.depthTogether() / (float) cut;
    }

    public double clearShare() {
        int cut = now.cutTracks();
        return cut <= 0 ? 0.0 : (double) now.clearnessTogether() / (double) (100 * cut);
    }

    public long digest() {
        long hash = 3559L;
        for (int what = 0; what < NUMBERS; what++) {
            hash = mixed(hash, count(what));
        }
        hash = mixed(hash, setting());
        for (int track = 0; track < TRACKS; track++) {
            hash = mixedTrack(hash, track);
        }
        for (int cylinder = 0; cylinder < CYLINDERS; cylinder++) {
            for (int what = 0; what < CYLINDER_PROPERTIES; what++) {
                hash = mixed(hash, cylinderOf(cylinder, what));
            }
        }
        hash = mixed(hash, ifCopied(0, 4, 2));
        hash = mixed(hash, ifCopied(4, 9, 2));
        hash = mixed(hash, ifCopied(9, 0, 2));
        hash = mixed(hash, clearest());
        hash = mixed(hash, bitsOf(meanDepth(), 23, 127));
        hash = mixed(hash, bitsOf(clearShare(), 52, 1023));
        for (int slot = 0; slot < SLOTS; slot++) {
            hash = mixed(hash, slotTaken[slot] ? 1 : 0);
        }
        hash = mixed(hash, orders.length());
        for (int place = 0; place < orders.length(); place++) {
            hash = mixed(hash, orders.codeAt(place));
        }
        return hash;
    }

    private long mixedTrack(long before, int track) {
        long hash = before;
        for (int what = 0; what < TRACK_PROPERTIES; what++) {
            hash = mixed(hash, trackOf(track, what));
        }
        hash = mixed(hash, whyNot(track, 5));
        hash = mixed(hash, daughters(track));
        hash = mixed(hash, chain(track, 1, 0));
        hash = mixed(hash, chain(track, 1, 1));
        hash = mixed(hash, chain(track, 3, 0));
        return mixed(hash, chain(track, 3, 1));
    }

    private static long mixed(long hash, long value) {
        return 31L * hash + value;
    }

    /**
     * The bits of a number that is 0 or more, as the Java library would tell them: it is no part
     * of the language that this file keeps to. Doubling and halving lose nothing here, as no
     * share or mean is so small or so large that its exponent ends.
     */
    private static long bitsOf(double number, int places, int bias) {
        if (!(number > 0.0)) {
            return 0L;
        }
        double rest = number;
        int exponent = bias;
        while (rest >= 2.0 && exponent < 2 * bias) {
            rest = rest / 2.0;
            exponent++;
        }
        while (rest < 1.0 && exponent > 1) {
            rest = rest * 2.0;
            exponent--;
        }
        long behindTheOne = (long) ((rest - 1.0) * (double) (1L << places));
        return ((long) exponent << places) + behindTheOne;
    }

    private void checkTrack(int track) {
        if (track < 0 || track >= TRACKS) {
            throw new IndexOutOfBoundsException("there is no such track");
        }
    }

    private void checkCylinder(int cylinder) {
        if (cylinder < 0 || cylinder >= CYLINDERS) {
            throw new IndexOutOfBoundsException("there is no such cylinder");
        }
    }

    private void checkLoudness(int loudness) {
        if (loudness < 1 || loudness > DEEPEST) {
            throw new IllegalArgumentException("a loudness is 1 to 9");
        }
    }

    private void checkLever(int lever) {
        if (lever < 1 || lever > LEVERS) {
            throw new IllegalArgumentException("a lever is 1 to 3");
        }
    }

    private void checkSlot(int slot) {
        if (slot < 0 || slot >= SLOTS) {
            throw new IllegalArgumentException("a slot is 0 or 1");
        }
    }

    private void checkWhat(int what, int end) {
        if (what < 0 || what >= end) {
            throw new IllegalArgumentException("what is out of range");
        }
    }

    private void saveState() {
        if (savedStates >= MOST_SAVED) {
            dropOldestState();
        }
        saved[savedStates].takeOver(now);
        savedStates++;
    }

    private void dropOldestState() {
        // the dropped state's rows go to the end, to be used again
        Wax oldest = saved[0];
        for (int i = 1; i < MOST_SAVED; i++) {
            saved[i - 1] = saved[i];
        }
        saved[MOST_SAVED - 1] = oldest;
        savedStates = MOST_SAVED - 1;
    }

    private int doOrders() {
        int done = 0;
        for (int start = 0; start < orders.length(); start += orders.formLengthAt(start) + 1) {
            if (!doOrder(start)) {
                return done;
            }
            done++;
        }
        return done;
    }

    private boolean doOrder(int start) {
        switch (orders.codeAt(start)) {
            case 's':
                return now.speakOnto(orders.trackAt(start + 1), orders.digitAt(start + 4)) == 0;
            case 'c':
                return now.copyOnto(orders.trackAt(start + 1), orders.trackAt(start + 4), orders.digitAt(start + 7)) == 0;
            case 'p':
                return now.playTrack(orders.trackAt(start + 1)) >= PLAYED;
            case 'x':
                return now.shaveCylinder(orders.cylinderAt(start + 1)) != NONE;
            default:
                now.windUp();
                return true;
        }
    }

    private static int bluntness(int sharpness) {
        return (SHARPEST - sharpness) / 4;
    }

    private static int sharpnessAfter(int sharpness, int depth) {
        return Math.max(0, sharpness - depth);
    }

    private static int copiedDepth(int depth, int lever) {
        return Math.min(DEEPEST, Math.max(1, depth * lever / 2));
    }

    private static int copiedClearness(int clearness, int lever, int sharpness, int flutter) {
        if (lever < 1) {
            return 0;
        }
        return Math.max(0, clearness - 12 / lever - bluntness(sharpness) - flutter);
    }

    private static int clearestOfAllLevers(int copies, int depth, int clearness, int sharpness) {
        if (copies <= 0) {
            return clearness;
        }
        int best = NONE;
        for (int lever = 1; lever <= LEVERS; lever++) {
            int deep = copiedDepth(depth, lever);
            int clear = copiedClearness(clearness, lever, sharpness, 0);
            best = Math.max(best, clearestOfAllLevers(copies - 1, deep, clear, sharpnessAfter(sharpness, deep)));
        }
        return best;
    }

    /** The machine with its wax and all that is counted: what a snapshot and a saved state hold. */
    private static final class Wax {
        final int[] depth = new int[TRACKS];
        final int[] clearness = new int[TRACKS];
        final int[] flutter = new int[TRACKS];
        final int[] generation = new int[TRACKS];
        final int[] mother = new int[TRACKS];
        final int[] clearnessAsCut = new int[TRACKS];
        final int[] plays = new int[TRACKS];
        final int[] layers = new int[CYLINDERS];
        final int[] shavings = new int[CYLINDERS];
        int sharpness = SHARPEST;
        int spring = WOUND_UP;
        int wear = WEAR_AT_FIRST;
        int spoken = 0;
        int copied = 0;
        int played = 0;
        int layersShaved = 0;
        int layersCome = CYLINDERS * LAYERS_AT_FIRST;
        int layersGone = 0;
        int refused = 0;

        Wax() {
            for (int cylinder = 0; cylinder < CYLINDERS; cylinder++) {
                layers[cylinder] = LAYERS_AT_FIRST;
            }
            for (int track = 0; track < TRACKS; track++) {
                mother[track] = NONE;
            }
        }

        void takeOver(Wax other) {
            System.arraycopy(other.depth, 0, depth, 0, TRACKS);
            System.arraycopy(other.clearness, 0, clearness, 0, TRACKS);
            System.arraycopy(other.flutter, 0, flutter, 0, TRACKS);
            System.arraycopy(other.generation, 0, generation, 0, TRACKS);
            System.arraycopy(other.mother, 0, mother, 0, TRACKS);
            System.arraycopy(other.clearnessAsCut, 0, clearnessAsCut, 0, TRACKS);
            System.arraycopy(other.plays, 0, plays, 0, TRACKS);
            System.arraycopy(other.layers, 0, layers, 0, CYLINDERS);
            System.arraycopy(other.shavings, 0, shavings, 0, CYLINDERS);
            sharpness = other.sharpness;
            spring = other.spring;
            wear = other.wear;
            spoken = other.spoken;
            copied = other.copied;
            played = other.played;
            layersShaved = other.layersShaved;
            layersCome = other.layersCome;
            layersGone = other.layersGone;
            refused = other.refused;
        }

        boolean isCut(int track) {
            return depth[track] > 0;
        }

        int machineFlutter() {
            return spring >= 50 ? 0 : (50 - spring) / 5;
        }

        int reasonNotToSpeak(int track, int loudness) {
            if (isCut(track)) {
                return 1;
            }
            if (layers[track / TRACKS_EACH] < loudness) {
                return 2;
            }
            return spring < SPEAKING_TAKES ? 3 : 0;
        }

        int speakOnto(int track, int loudness) {
            int reason = reasonNotToSpeak(track, loudness);
            if (reason != 0) {
                refused++;
                return reason;
            }
            generation[track] = 0;
            mother[track] = NONE;
            cut(track, loudness, 40 + 5 * loudness - bluntness(sharpness), machineFlutter());
            spring -= SPEAKING_TAKES;
            spoken++;
            return 0;
        }

        int reasonNotToCopy(int from, int track, int lever) {
            if (!isCut(from)) {
                return 1;
            }
            if (isCut(track)) {
                return 2;
            }
            if (from / TRACKS_EACH == track / TRACKS_EACH) {
                return 3;
            }
            if (layers[track / TRACKS_EACH] < copiedDepth(depth[from], lever)) {
                return 4;
            }
            return spring < COPYING_TAKES ? 5 : 0;
        }

        int clearnessIfCopied(int from, int lever) {
            return copiedClearness(clearness[from], lever, sharpness, machineFlutter());
        }

        int copyOnto(int from, int track, int lever) {
            int reason = reasonNotToCopy(from, track, lever);
            if (reason != 0) {
                refused++;
                return reason;
            }
            generation[track] = generation[from] + 1;
            mother[track] = from;
            int fluttering = Math.min(MOST_FLUTTER, flutter[from] + machineFlutter());
            cut(track, copiedDepth(depth[from], lever), clearnessIfCopied(from, lever), fluttering);
            spring -= COPYING_TAKES;
            copied++;
            return 0;
        }

        void cut(int track, int deep, int clear, int fluttering) {
            depth[track] = deep;
            clearness[track] = clear;
            clearnessAsCut[track] = clear;
            flutter[track] = fluttering;
            plays[track] = 0;
            sharpness = sharpnessAfter(sharpness, deep);
        }

        int playTrack(int track) {
            int reason = !isCut(track) ? 1 : spring < PLAYING_TAKES ? 2 : 0;
            if (reason != 0) {
                refused++;
                return reason;
            }
            clearness[track] = Math.max(0, clearness[track] - wear);
            plays[track]++;
            spring -= PLAYING_TAKES;
            played++;
            return PLAYED + clearness[track];
        }

        int shaveCylinder(int cylinder) {
            int off = greatestDepth(cylinder);
            if (off == 0) {
                refused++;
                return NONE;
            }
            layers[cylinder] -= off;
            layersShaved += off;
            shavings[cylinder]++;
            smoothTracks(cylinder);
            return off;
        }

        int renewCylinder(int cylinder, int fresh) {
            int old = layers[cylinder];
            layers[cylinder] = fresh;
            layersGone += old;
            layersCome += fresh;
            shavings[cylinder] = 0;
            smoothTracks(cylinder);
            return old;
        }

        void smoothTracks(int cylinder) {
            int first = cylinder * TRACKS_EACH;
            for (int track = first; track < first + TRACKS_EACH; track++) {
                depth[track] = 0;
                mother[track] = NONE;
            }
        }

        int windUp() {
            int by = WOUND_UP - spring;
            spring = WOUND_UP;
            return by;
        }

        int sharpenPoint() {
            int by = SHARPEST - sharpness;
            sharpness = SHARPEST;
            return by;
        }

        int trackProperty(int track, int what) {
            if (what == 0) {
                return depth[track];
            }
            if (!isCut(track)) {
                return NONE;
            }
            switch (what) {
                case 1:
                    return clearness[track];
                case 2:
                    return flutter[track];
                case 3:
                    return generation[track];
                case 4:
                    return mother[track];
                case 5:
                    return clearnessAsCut[track];
                default:
                    return plays[track];
            }
        }

        int cylinderProperty(int cylinder, int what) {
            switch (what) {
                case 0:
                    return layers[cylinder];
                case 1:
                    return cutTracksOn(cylinder);
                case 2:
                    return greatestDepth(cylinder);
                case 3:
                    return clearestTrackOn(cylinder);
                default:
                    return shavings[cylinder];
            }
        }

        int number(int what) {
            switch (what) {
                case 0:
                    return sharpness;
                case 1:
                    return spring;
                case 2:
                    return machineFlutter();
                case 3:
                    return cutTracks();
                case 4:
                    return spoken;
                case 5:
                    return copied;
                case 6:
                    return played;
                case 7:
                    return layersTogether();
                case 8:
                    return layersShaved;
                case 9:
                    return layersCome;
                case 10:
                    return layersGone;
                default:
                    return refused;
            }
        }

        int cutTracksOn(int cylinder) {
            int cut = 0;
            int first = cylinder * TRACKS_EACH;
            for (int track = first; track < first + TRACKS_EACH; track++) {
                cut += isCut(track) ? 1 : 0;
            }
            return cut;
        }

        int cutTracks() {
            int cut = 0;
            for (int cylinder = 0; cylinder < CYLINDERS; cylinder++) {
                cut += cutTracksOn(cylinder);
            }
            return cut;
        }

        int greatestDepth(int cylinder) {
            int greatest = 0;
            int first = cylinder * TRACKS_EACH;
            for (int track = first; track < first + TRACKS_EACH; track++) {
                greatest = Math.max(greatest, depth[track]);
            }
            return greatest;
        }

        int clearestTrackOn(int cylinder) {
            int best = NONE;
            int first = cylinder * TRACKS_EACH;
            for (int track = first; track < first + TRACKS_EACH; track++) {
                if (isCut(track) && (best == NONE || clearness[track] > clearness[best])) {
                    best = track;
                }
            }
            return best;
        }

        int clearestTrack() {
            int best = NONE;
            for (int track = 0; track < TRACKS; track++) {
                if (isCut(track) && (best == NONE || soundsBetter(track, best))) {
                    best = track;
                }
            }
            return best;
        }

        boolean soundsBetter(int track, int than) {
            if (clearness[track] != clearness[than]) {
                return clearness[track] > clearness[than];
            }
            return flutter[track] < flutter[than];
        }

        int layersTogether() {
            int together = 0;
            for (int cylinder = 0; cylinder < CYLINDERS; cylinder++) {
                together += layers[cylinder];
            }
            return together;
        }

        int depthTogether() {
            int together = 0;
            for (int track = 0; track < TRACKS; track++) {
                together += depth[track];
            }
            return together;
        }

        int clearnessTogether() {
            int together = 0;
            for (int track = 0; track < TRACKS; track++) {
                together += isCut(track) ? clearness[track] : 0;
            }
            return together;
        }

        int descendants(int ancestor) {
            int found = 0;
            for (int track = 0; track < TRACKS; track++) {
                if (track != ancestor && comesFrom(track, ancestor)) {
                    found++;
                }
            }
            return found;
        }

        boolean comesFrom(int track, int ancestor) {
            // a track cut anew from its own daughter closes a ring, so the way is bounded
            int at = mother[track];
            for (int i = 0; i < TRACKS && at >= 0 && at < TRACKS; i++) {
                if (at == ancestor) {
                    return true;
                }
                at = mother[at];
            }
            return false;
        }
    }

    /** The buffer, and how orders are written in it. */
    private static final class Orders {
        private static final int MOST_CHARACTERS = 60;
        /** The forms of the orders: A a cylinder's letter, D a digit of a track, N a loudness, V a lever. */
        private static final String SPEAKING = "sAD=N";
        private static final String COPYING = "cAD>AD*V";
        private static final String PLAYING = "pAD";
        private static final String SHAVING = "xA";
        private static final String WINDING = "w";

        private final char[] text = new char[MOST_CHARACTERS];
        private int length = 0;

        int length() {
            return length;
        }

        boolean isFull() {
            return length >= MOST_CHARACTERS;
        }

        int take(char character) {
            if (!isFull()) {
                text[length] = character;
                length++;
            }
            return length;
        }

        int drop() {
            int had = length;
            length = 0;
            return had;
        }

        /** 0, which no order holds, beyond the end. */
        int codeAt(int place) {
            return place >= 0 && place < length ? text[place] : 0;
        }

        int digitAt(int place) {
            return codeAt(place) - '0';
        }

        int cylinderAt(int place) {
            return codeAt(place) - 'a';
        }

        int trackAt(int place) {
            return cylinderAt(place) * TRACKS_EACH + digitAt(place + 1);
        }

        int firstWrong() {
            for (int start = 0; start < length; start += formLengthAt(start) + 1) {
                int end = start + rightCharacters(start);
                if (!isWholeOrder(start) || end < length && codeAt(end) != ';') {
                    return end;
                }
            }
            return length;
        }

        boolean areWhole() {
            for (int start = 0; start < length; start += formLengthAt(start) + 1) {
                int end = start + rightCharacters(start);
                if (!isWholeOrder(start) || end < length && codeAt(end) != ';') {
                    return false;
                }
                if (end == length) {
                    return true;
                }
            }
            return false;
        }

        int formLengthAt(int start) {
            return formOf(codeAt(start)).length();
        }

        private boolean isWholeOrder(int start) {
            int whole = formLengthAt(start);
            return whole > 0 && rightCharacters(start) == whole;
        }

        private int rightCharacters(int start) {
            String form = formOf(codeAt(start));
            int right = 0;
            while (right < form.length() && fits(codeAt(start + right), form.charAt(right))) {
                right++;
            }
            return right;
        }

        private static String formOf(int code) {
            switch (code) {
                case 's':
                    return SPEAKING;
                case 'c':
                    return COPYING;
                case 'p':
                    return PLAYING;
                case 'x':
                    return SHAVING;
                case 'w':
                    return WINDING;
                default:
                    return "";
            }
        }

        private static boolean fits(int code, char sign) {
            switch (sign) {
                case 'A':
                    return code >= 'a' && code <= 'f';
                case 'D':
                    return code >= '0' && code <= '3';
                case 'N':
                    return code >= '1' && code <= '9';
                case 'V':
                    return code >= '1' && code <= '3';
                default:
                    return code == sign;
            }
        }
    }

    /** Tells step by step how clear a copy of copies could be: the best for each depth and each sharpness. */
    private static final class Steps {
        private int[][] best = new int[DEEPEST + 1][SHARPEST + 1];
        private int[][] next = new int[DEEPEST + 1][SHARPEST + 1];

        int clearestAfter(int copies, int depth, int clearness, int sharpness) {
            // the point can't be sharper than at first, nor lose more than the deepest cut by a
            // copy: only the columns from bluntest to sharpness are in use
            int bluntest = sharpness;
            forget(best, bluntest, sharpness);
            best[depth][sharpness] = clearness;
            for (int made = 0; made < copies; made++) {
                int blunter = sharpnessAfter(bluntest, DEEPEST);
                forget(next, blunter, sharpness);
                stepOn(bluntest, sharpness);
                int[][] old = best;
                best = next;
                next = old;
                bluntest = blunter;
            }
            return clearestOf(bluntest, sharpness);
        }

        private void stepOn(int bluntest, int sharpest) {
            for (int depth = 1; depth <= DEEPEST; depth++) {
                for (int sharpness = bluntest; sharpness <= sharpest; sharpness++) {
                    int mother = best[depth][sharpness];
                    for (int lever = 1; lever <= LEVERS && mother != NONE; lever++) {
                        int deep = copiedDepth(depth, lever);
                        int blunt = sharpnessAfter(sharpness, deep);
                        int daughter = copiedClearness(mother, lever, sharpness, 0);
                        next[deep][blunt] = Math.max(next[deep][blunt], daughter);
                    }
                }
            }
        }

        private int clearestOf(int bluntest, int sharpest) {
            int clearest = NONE;
            for (int depth = 1; depth <= DEEPEST; depth++) {
                for (int sharpness = bluntest; sharpness <= sharpest; sharpness++) {
                    clearest = Math.max(clearest, best[depth][sharpness]);
                }
            }
            return clearest;
        }

        private static void forget(int[][] rows, int bluntest, int sharpest) {
            for (int depth = 1; depth <= DEEPEST; depth++) {
                for (int sharpness = bluntest; sharpness <= sharpest; sharpness++) {
                    rows[depth][sharpness] = NONE;
                }
            }
        }
    }
}
