import java.util.Arrays;

/**
 * An acoustic camera: microphones in a plane record sources in another plane, and a map of that plane is computed by
 * delay and sum. What a call needs is made once, in the constructor, and used again, so that calls make no objects;
 * only the numbers that cleanings have let grow get room when they first need it.
 */
public final class AcousticCamera {
    public static final int NONE = -1;

    private static final int MOST_BYTES = 1000;
    private static final int MOST_LETTERS = 8;
    private static final int MOST_DIGITS = 4;
    private static final int MOST_MICS = 12;
    private static final int MOST_SOURCES = 6;
    private static final int MOST_WALLS = 2;
    private static final int MOST_TAPS = 5;
    private static final int MOST_SHADES = 12;
    private static final int MOST_ZONES = 4;
    private static final int MOST_SAMPLES = 200;
    private static final int MOST_SIDE = 12;
    private static final int MOST_CELLS = 144;
    private static final int LEAST_BLOCK = 4;
    private static final int MOST_BLOCKS = 50;
    private static final int MOST_CHANGES = 6;
    private static final int SLOTS = 2;
    private static final int FARTHEST = 9999;
    private static final int FASTEST = 999;
    private static final int SOURCE_FARTHEST = 2000;
    private static final int LEAST_PERIOD = 2;
    private static final int MOST_PERIOD = 99;
    private static final int MOST_WEIGHT = 9;
    private static final int PROBE_AMP = 100;

    private static final int PART_BITS = 28;
    private static final long PART_MASK = 0xfffffffL;
    /** See Wides for why so many are enough. */
    private static final int MOST_PARTS = 40;

    private static final int WORD = 1;
    private static final int NUMBER = 2;
    private static final int MINUS = 3;
    private static final int SEMICOLON = 4;
    private static final int END = 5;
    private static final int BROKEN = 6;

    private static final int NOT_ALLOWED = 1;
    private static final int OUT_OF_BOUNDS = 2;
    private static final int REPEATED = 3;
    private static final int TOO_MANY = 4;
    private static final int MISSING = 5;

    private static final int SQUARE = 0;
    private static final int TRIANGLE = 1;
    private static final int PULSE = 2;
    private static final int NOISE = 3;

    private final Text text = new Text();
    private final Parser parser = new Parser(text);
    private final Recorder recorder = new Recorder();
    private final Blocks blocks = new Blocks();
    private final PowerMap powers = new PowerMap();
    private final PowerMap trialPowers = new PowerMap();
    private final State now = new State();
    private final State trial = new State();
    private final State[] past = new State[MOST_CHANGES];
    private final State[] slots = new State[SLOTS];
    private final boolean[] saved = new boolean[SLOTS];
    private final int[] pointDelays = new int[MOST_MICS];
    /** What a call works out, by numbers of its own; nothing of it is kept for a later call. */
    private final Wides numbers = new Wides(MOST_MICS);
    private final int[] mapText = new int[MOST_CELLS + MOST_SIDE - 1];
    private Scene scene = new Scene();
    private Scene spare = new Scene();
    private int pastCount;
    private int newest;
    private int mapLength;

    public AcousticCamera() {
        for (int i = 0; i < MOST_CHANGES; i++) {
            past[i] = new State();
        }
        for (int i = 0; i < SLOTS; i++) {
            slots[i] = new State();
        }
    }

    // ---- input

    public int append(int a, int b, int c, int d, int e) {
        if (text.length + 20 > MOST_BYTES) {
            return NONE;
        }
        text.addWord(a);
        text.addWord(b);
        text.addWord(c);
        text.addWord(d);
        text.addWord(e);
        return text.length;
    }

    public int load(int n) throws IndexOutOfBoundsException, IllegalArgumentException {
        if (n < 0 || n > text.length) {
            throw new IndexOutOfBoundsException();
        }
        text.length = 0;
        parser.parse(n, spare);
        Scene old = scene;
        scene = spare;
        spare = old;
        begin();
        return scene.grid.cells();
    }

    public int parseError() {
        return parser.code;
    }

    public int errorPosition() {
        return parser.position;
    }

    public int buffered() {
        return text.length;
    }

    // ---- microphones, cells, sources

    public int mics() {
        return scene.micCount;
    }

    public int micAt(int mic, int what)
            throws IllegalStateException, IndexOutOfBoundsException, IllegalArgumentException {
        needCamera();
        needMic(mic);
        needRange(what, 0, 3);
        switch (what) {
            case 0:
                return scene.mics[mic].x;
            case 1:
                return scene.mics[mic].y;
            case 2:
                return scene.mics[mic].gain;
            default:
                return now.weights[mic];
        }
    }

    public boolean isMuted(int mic) throws IllegalStateException, IndexOutOfBoundsException {
        needCamera();
        needMic(mic);
        return now.muted[mic];
    }

    public int columns() {
        return scene.grid.columns;
    }

    public int rows() {
        return scene.grid.rows;
    }

    public int cellAt(int cell, int axis)
            throws IllegalStateException, IndexOutOfBoundsException, IllegalArgumentException {
        needCamera();
        needCell(cell);
        needRange(axis, 0, 1);
        return axis == 0 ? scene.grid.centreX(cell) : scene.grid.centreY(cell);
    }

    public int sources() {
        return scene.sourceCount;
    }

    public int sourceAt(int source, int axis, int t)
            throws IllegalStateException, IndexOutOfBoundsException, IllegalArgumentException {
        needCamera();
        needSource(source);
        needRange(axis, 0, 1);
        needRange(t, 0, scene.samples - 1);
        return axis == 0
                ? moved(now.x[source], now.vx[source], t)
                : moved(now.y[source], now.vy[source], t);
    }

    public boolean isOn(int source) throws IllegalStateException, IndexOutOfBoundsException {
        needCamera();
        needSource(source);
        return now.on[source];
    }

    public int waveAt(int source, int t)
            throws IllegalStateException, IndexOutOfBoundsException, IllegalArgumentException {
        needCamera();
        needSource(source);
        needRange(t, 0, scene.samples - 1);
        return scene.sources[source].valueAt(t);
    }

    public int samples() {
        return scene.samples;
    }

    // ---- delays

    public int delay(int mic, int cell) throws IllegalStateException, IndexOutOfBoundsException {
        needCamera();
        needMic(mic);
        needCell(cell);
        return scene.delays[cell][mic];
    }

    public int delayTo(int mic, int x, int y)
            throws IllegalStateException, IndexOutOfBoundsException, IllegalArgumentException {
        needCamera();
        needMic(mic);
        needRange(x, -FARTHEST, FARTHEST);
        needRange(y, -FARTHEST, FARTHEST);
        return scene.delayFrom(scene.mics[mic], x, y);
    }

    public int spread(int cell) throws IllegalStateException, IndexOutOfBoundsException {
        needCamera();
        needCell(cell);
        int[] delays = scene.delays[cell];
        return now.greatestDelay(delays) - now.smallestDelay(delays);
    }

    public int window(int cell) throws IllegalStateException, IndexOutOfBoundsException {
        needCamera();
        needCell(cell);
        return now.windowOf(scene.delays[cell]);
    }

    // ---- recordings, beams and powers

    public int sample(int mic, int t)
            throws IllegalStateException, IndexOutOfBoundsException, IllegalArgumentException {
        needCamera();
        needMic(mic);
        needRange(t, 0, scene.samples - 1);
        return (int) now.samples.value(State.placeOf(mic, t));
    }

    public int beam(int cell, int t)
            throws IllegalStateException, IndexOutOfBoundsException, IllegalArgumentException {
        needCamera();
        needCell(cell);
        needRange(t, 0, now.windowOf(scene.delays[cell]) - 1);
        now.focus(scene.delays[cell], t);
        return (int) now.beam.value(0);
    }

    public long power(int cell) throws IllegalStateException, IndexOutOfBoundsException {
        needCamera();
        needCell(cell);
        return powersNow().of.value(cell);
    }

    public long powerAt(int x, int y) throws IllegalStateException, IllegalArgumentException {
        needCamera();
        needRange(x, -FARTHEST, FARTHEST);
        needRange(y, -FARTHEST, FARTHEST);
        scene.delaysFrom(x, y, pointDelays);
        now.powerOf(pointDelays, numbers, 0);
        return numbers.value(0);
    }

    public int best() throws IllegalStateException {
        needCamera();
        return powersNow().best;
    }

    public long bestPower() throws IllegalStateException {
        needCamera();
        PowerMap map = powersNow();
        return map.of.value(map.best);
    }

    public long meanPower() throws IllegalStateException {
        needCamera();
        powersNow().sumIn(scene.grid.whole, scene.grid, numbers, 0);
        numbers.divide(0, scene.grid.cells());
        return numbers.value(0);
    }

    public int peaks() throws IllegalStateException {
        needCamera();
        return powersNow().peakCount;
    }

    public int peakAt(int rank) throws IllegalStateException, IndexOutOfBoundsException {
        needCamera();
        PowerMap map = powersNow();
        needIndex(rank, map.peakCount);
        return map.peakRanked(rank);
    }

    public boolean isPeak(int cell) throws IllegalStateException, IndexOutOfBoundsException {
        needCamera();
        needCell(cell);
        return powersNow().standsOut(cell, scene.grid);
    }

    public long zonePower(int zone) throws IllegalStateException, IndexOutOfBoundsException {
        needCamera();
        needIndex(zone, scene.grid.zoneCount);
        powersNow().sumIn(scene.grid.zones[zone], scene.grid, numbers, 0);
        return numbers.value(0);
    }

    public int zoneBest(int zone) throws IllegalStateException, IndexOutOfBoundsException {
        needCamera();
        needIndex(zone, scene.grid.zoneCount);
        return scene.grid.bestIn(scene.grid.zones[zone], powersNow().of, 0);
    }

    public float contrast() throws IllegalStateException {
        needCamera();
        PowerMap map = powersNow();
        int second = map.second(scene.grid.cells());
        return second == NONE ? 0.0f : map.of.ratio(map.best, second);
    }

    // ---- aliases

    public int alias(int cell, int other, int period)
            throws IllegalStateException, IndexOutOfBoundsException, IllegalArgumentException {
        needCamera();
        needCell(cell);
        needCell(other);
        needRange(period, LEAST_PERIOD, MOST_PERIOD);
        return confusion(cell, other, period);
    }

    public boolean isAlias(int cell, int period, int share)
            throws IllegalStateException, IndexOutOfBoundsException, IllegalArgumentException {
        needCamera();
        needCell(cell);
        needRange(period, LEAST_PERIOD, MOST_PERIOD);
        needRange(share, 1, 100);
        return marksAlias(powersNow(), cell, period, share);
    }

    public int aliases(int period, int share) throws IllegalStateException, IllegalArgumentException {
        needCamera();
        needRange(period, LEAST_PERIOD, MOST_PERIOD);
        needRange(share, 1, 100);
        PowerMap map = powersNow();
        int count = 0;
        for (int cell = 0; cell < scene.grid.cells(); cell++) {
            if (marksAlias(map, cell, period, share)) {
                count++;
            }
        }
        return count;
    }

    // ---- blocks and moving focus

    public long blockPower(int cell, int from, int length)
            throws IllegalStateException, IndexOutOfBoundsException, IllegalArgumentException {
        needCamera();
        needCell(cell);
        needRange(from, 0, scene.samples - 1);
        needRange(length, 1, scene.samples);
        now.blockPowerOf(scene.delays[cell], from, length, numbers, 0);
        return numbers.value(0);
    }

    public int blockBest(int from, int length) throws IllegalStateException, IllegalArgumentException {
        needCamera();
        needRange(from, 0, scene.samples - 1);
        needRange(length, 1, scene.samples);
        return blocks.bestOf(scene, now, from, length);
    }

    public int path(int length) throws IllegalStateException, IllegalArgumentException {
        needCamera();
        needRange(length, LEAST_BLOCK, scene.samples);
        int count = 0;
        int last = blocks.bestOf(scene, now, 0, length);
        for (int from = length; from + length <= scene.samples; from += Math.max(length, 1)) {
            int next = blocks.bestOf(scene, now, from, length);
            count += next == last ? 0 : 1;
            last = next;
        }
        return count;
    }

    public long trackScore(int length) throws IllegalStateException, IllegalArgumentException {
        needCamera();
        needRange(length, LEAST_BLOCK, scene.samples);
        blocks.score(scene, now, length);
        return blocks.scores.value(blocks.trackCellIn(scene.grid, 0));
    }

    public int trackCell(int length, int block)
            throws IllegalStateException, IndexOutOfBoundsException, IllegalArgumentException {
        needCamera();
        boolean lengthFits = length >= LEAST_BLOCK && length <= scene.samples;
        if (lengthFits) {
            needIndex(block, (int) quotient(scene.samples, length));
        }
        needRange(length, LEAST_BLOCK, scene.samples);
        blocks.score(scene, now, length);
        return blocks.trackCellIn(scene.grid, block);
    }

    public long movingPower(int cell, int vx, int vy)
            throws IllegalStateException, IndexOutOfBoundsException, IllegalArgumentException {
        needCamera();
        needCell(cell);
        needRange(vx, -FASTEST, FASTEST);
        needRange(vy, -FASTEST, FASTEST);
        powerOnTheMove(cell, vx, vy, 0);
        return numbers.value(0);
    }

    public int bestVelocity(int cell, int step, int most)
            throws IllegalStateException, IndexOutOfBoundsException, IllegalArgumentException {
        needCamera();
        needCell(cell);
        needRange(step, 1, 99);
        needRange(most, 0, 4);
        int best = NONE;
        for (int i = -most; i <= most; i++) {
            for (int k = -most; k <= most; k++) {
                powerOnTheMove(cell, step * i, step * k, 1);
                if (best == NONE || numbers.compare(1, 0) > 0) {
                    numbers.set(0, numbers, 1);
                    best = 100 * (i + most) + k + most;
                }
            }
        }
        return best;
    }

    // ---- microphones compared

    public long correlation(int mic, int other, int lag)
            throws IllegalStateException, IndexOutOfBoundsException, IllegalArgumentException {
        needCamera();
        needMic(mic);
        needMic(other);
        needRange(lag, 0, scene.samples - 1);
        now.productSum(mic, other, lag, numbers, 0);
        return numbers.value(0);
    }

    public int bestLag(int mic, int other, int most)
            throws IllegalStateException, IndexOutOfBoundsException, IllegalArgumentException {
        needCamera();
        needMic(mic);
        needMic(other);
        needRange(most, 0, scene.samples - 1);
        int best = 0;
        now.productSum(mic, other, 0, numbers, 0);
        for (int lag = 1; lag <= most; lag++) {
            now.productSum(mic, other, lag, numbers, 1);
            if (numbers.compare(1, 0) > 0) {
                numbers.set(0, numbers, 1);
                best = lag;
            }
        }
        return best;
    }

    public long level(int mic) throws IllegalStateException, IndexOutOfBoundsException {
        needCamera();
        needMic(mic);
        measureLevel(mic);
        return numbers.value(mic);
    }

    public int loudest(int rank) throws IllegalStateException, IndexOutOfBoundsException {
        needCamera();
        needIndex(rank, scene.micCount);
        for (int mic = 0; mic < scene.micCount; mic++) {
            measureLevel(mic);
        }
        return numbers.ranked(scene.micCount, rank);
    }

    // ---- the map as a text

    public int writeMap() throws IllegalStateException {
        needCamera();
        PowerMap map = powersNow();
        mapLength = 0;
        for (int cell = 0; cell < scene.grid.cells(); cell++) {
            if (cell > 0 && scene.grid.columnOf(cell) == 0) {
                addMapByte(';');
            }
            addMapByte('0' + map.digit(cell, numbers));
        }
        return mapLength;
    }

    public int mapByte(int i) throws IndexOutOfBoundsException {
        needIndex(i, mapLength);
        return mapText[i];
    }

    // ---- what-if questions

    public int pointBest(int cell, int period)
            throws IllegalStateException, IndexOutOfBoundsException, IllegalArgumentException {
        needCamera();
        needCell(cell);
        needRange(period, LEAST_PERIOD, MOST_PERIOD);
        recordPoint(cell, period);
        return trialBest();
    }

    public long pointPower(int cell, int other, int period)
            throws IllegalStateException, IndexOutOfBoundsException, IllegalArgumentException {
        needCamera();
        needCell(cell);
        needCell(other);
        needRange(period, LEAST_PERIOD, MOST_PERIOD);
        recordPoint(cell, period);
        trial.powerOf(scene.delays[other], numbers, 0);
        return numbers.value(0);
    }

    public int bestWithout(int mic) throws IllegalStateException, IndexOutOfBoundsException {
        needCamera();
        needMic(mic);
        trial.copyFrom(now);
        trial.muted[mic] = true;
        return trialBest();
    }

    public int bestIfOff(int source) throws IllegalStateException, IndexOutOfBoundsException {
        needCamera();
        needSource(source);
        trial.copyFrom(now);
        trial.on[source] = false;
        recorder.record(scene, trial);
        return trialBest();
    }

    // ---- changes (each can be undone, the latest one first)

    public boolean mute(int mic, boolean muted) throws IllegalStateException, IndexOutOfBoundsException {
        needCamera();
        needMic(mic);
        boolean before = now.muted[mic];
        keepForUndo();
        now.muted[mic] = muted;
        return before;
    }

    public int setWeight(int mic, int weight)
            throws IllegalStateException, IndexOutOfBoundsException, IllegalArgumentException {
        needCamera();
        needMic(mic);
        needRange(weight, 0, MOST_WEIGHT);
        int before = now.weights[mic];
        keepForUndo();
        now.weights[mic] = weight;
        return before;
    }

    public boolean setOn(int source, boolean on) throws IllegalStateException, IndexOutOfBoundsException {
        needCamera();
        needSource(source);
        boolean before = now.on[source];
        keepForUndo();
        now.on[source] = on;
        recorder.record(scene, now);
        return before;
    }

    public int moveSource(int source, int x, int y)
            throws IllegalStateException, IndexOutOfBoundsException, IllegalArgumentException {
        needCamera();
        needSource(source);
        needRange(x, -SOURCE_FARTHEST, SOURCE_FARTHEST);
        needRange(y, -SOURCE_FARTHEST, SOURCE_FARTHEST);
        keepForUndo();
        now.x[source] = x;
        now.y[source] = y;
        recorder.record(scene, now);
        return powersNow().best;
    }

    public int setVelocity(int source, int vx, int vy)
            throws IllegalStateException, IndexOutOfBoundsException, IllegalArgumentException {
        needCamera();
        needSource(source);
        needRange(vx, -FASTEST, FASTEST);
        needRange(vy, -FASTEST, FASTEST);
        keepForUndo();
        now.vx[source] = vx;
        now.vy[source] = vy;
        recorder.record(scene, now);
        return powersNow().best;
    }

    public int clean(int percent) throws IllegalStateException, IllegalArgumentException {
        needCamera();
        if (now.activeWeight() == 0) {
            throw new IllegalStateException();
        }
        needRange(percent, 1, 100);
        int cell = powersNow().best;
        keepForUndo();
        now.subtractBeam(scene.delays[cell], percent);
        return cell;
    }

    public int cleaned() throws IllegalStateException {
        needCamera();
        return now.timesCleaned;
    }

    public int undo() throws IllegalStateException {
        if (pastCount == 0) {
            throw new IllegalStateException();
        }
        now.copyFrom(past[newest]);
        newest = (newest + MOST_CHANGES - 1) % MOST_CHANGES;
        pastCount--;
        powers.known = false;
        return pastCount;
    }

    public int undoable() {
        return pastCount;
    }

    public int save(int slot) throws IllegalStateException, IndexOutOfBoundsException {
        needCamera();
        needIndex(slot, SLOTS);
        slots[slot].copyFrom(now);
        saved[slot] = true;
        return powersNow().best;
    }

    public int restore(int slot) throws IndexOutOfBoundsException, IllegalStateException {
        needIndex(slot, SLOTS);
        if (!saved[slot]) {
            throw new IllegalStateException();
        }
        now.copyFrom(slots[slot]);
        pastCount = 0;
        powers.known = false;
        return powersNow().best;
    }

    // ---- what the calls have in common

    /** The first scene is empty, and every text that is loaded has a microphone. */
    private void needCamera() {
        if (scene.micCount == 0) {
            throw new IllegalStateException();
        }
    }

    private void needMic(int mic) {
        needIndex(mic, scene.micCount);
    }

    private void needCell(int cell) {
        needIndex(cell, scene.grid.cells());
    }

    private void needSource(int source) {
        needIndex(source, scene.sourceCount);
    }

    private static void needIndex(int index, int count) {
        if (index < 0 || index >= count) {
            throw new IndexOutOfBoundsException();
        }
    }

    private static void needRange(int value, int least, int most) {
        if (value < least || value > most) {
            throw new IllegalArgumentException();
        }
    }

    private void begin() {
        scene.measureDelays();
        now.begin(scene);
        recorder.record(scene, now);
        pastCount = 0;
        powers.known = false;
        for (int i = 0; i < SLOTS; i++) {
            saved[i] = false;
        }
    }

    /** To be called when nothing of the change is done yet. */
    private void keepForUndo() {
        newest = (newest + 1) % MOST_CHANGES;
        past[newest].copyFrom(now);
        if (pastCount < MOST_CHANGES) {
            pastCount++;
        }
        powers.known = false;
    }

    /** The powers are the dearest thing to compute, so they are kept until a change. */
    private PowerMap powersNow() {
        if (!powers.known) {
            powers.measure(scene, now);
            powers.known = true;
        }
        return powers;
    }

    private int trialBest() {
        trialPowers.measure(scene, trial);
        return trialPowers.best;
    }

    private void recordPoint(int cell, int period) {
        trial.copyFrom(now);
        recorder.recordPoint(scene, trial, cell, period);
    }

    private boolean marksAlias(PowerMap map, int cell, int period, int share) {
        int active = now.activeMics();
        return cell != map.best && active > 0 && map.standsOut(cell, scene.grid)
                && 100 * confusion(cell, map.best, period) >= share * active;
    }

    private int confusion(int cell, int other, int period) {
        int[] one = scene.delays[cell];
        int[] two = scene.delays[other];
        int most = 0;
        for (int mic = 0; mic < scene.micCount; mic++) {
            int same = 0;
            for (int peer = 0; peer < scene.micCount; peer++) {
                // equal remainders are those whose differences are multiples of the period
                int apart = (one[mic] - two[mic]) - (one[peer] - two[peer]);
                if (!now.muted[mic] && !now.muted[peer] && remainder(apart, period) == 0) {
                    same++;
                }
            }
            most = Math.max(most, same);
        }
        return most;
    }

    private void powerOnTheMove(int cell, int vx, int vy, int place) {
        int x = scene.grid.centreX(cell);
        int y = scene.grid.centreY(cell);
        numbers.clear(place);
        for (int t = 0; t < scene.samples; t++) {
            scene.delaysFrom(moved(x, vx, t), moved(y, vy, t), pointDelays);
            now.focus(pointDelays, t);
            numbers.addProduct(place, now.beam, 0, now.beam, 0);
        }
        numbers.divide(place, scene.samples);
    }

    private void measureLevel(int mic) {
        now.productSum(mic, mic, 0, numbers, mic);
        numbers.divide(mic, scene.samples);
    }

    private void addMapByte(int value) {
        if (mapLength < mapText.length) {
            mapText[mapLength] = value;
            mapLength++;
        }
    }

    private static int moved(int start, int velocity, int t) {
        return start + velocity * t / 100;
    }

    /** Rounded towards 0; a divisor of 0 answers 0, which is what the document wants where it can occur. */
    private static long quotient(long dividend, long divisor) {
        return divisor == 0L ? 0L : dividend / divisor;
    }

    private static int remainder(int dividend, int divisor) {
        return divisor == 0 ? 0 : dividend % divisor;
    }

    /** The square root rounded down, for values below 2 to the power of 30. */
    private static int root(int value) {
        int root = 0;
        for (int bit = 1 << 14; bit > 0; bit >>= 1) {
            int next = root + bit;
            if (next * next <= value) {
                root = next;
            }
        }
        return root;
    }

    /**
     * Whole numbers of any sign that may be far too great for a long: a number is the sum of its parts k times
     * 2^(28 k). Every part but the last one is from 0 to 2^28 - 1, the last one from -2^28 to 2^28 - 1; all numbers of
     * a table have equally many parts, so that they can be compared part by part.
     *
     * The parts never run out within the 512 calls of an object: a cleaning at most doubles the greatest sample, which
     * was at most 9999 when the recordings were made, so that a sample stays below 2^525, a beam below 2^532, and a sum
     * of the squares of 200 beams, as any other sum that is worked out, below 2^1072.
     */
    private static final class Wides {
        private final int count;
        /** By part, then by number; the rows that were never needed are empty. */
        final long[][] rows = new long[MOST_PARTS][0];
        /** How many parts the numbers have. */
        int used = 1;

        Wides(int count) {
            this.count = Math.max(count, 0);
            rows[0] = new long[Math.max(count, 0)];
        }

        /** Lets the numbers have one part again; to be called when none of them is wanted any more. */
        void narrow() {
            used = 1;
        }

        void clear(int i) {
            for (int part = 0; part < used; part++) {
                rows[part][i] = 0L;
            }
        }

        /** Puts a number of one part. */
        void put(int i, int value) {
            clear(i);
            rows[0][i] = value;
            settle(i);
        }

        void set(int i, Wides other, int k) {
            clear(i);
            add(i, other, k, 1);
        }

        /** Copies the numbers of a table of the same size. */
        void copyFrom(Wides other) {
            widenTo(other.used);
            used = other.used;
            for (int part = 0; part < used; part++) {
                System.arraycopy(other.rows[part], 0, rows[part], 0, Math.min(count, other.count));
            }
        }

        /** Adds a number, times a factor of one part, to number i. */
        void add(int i, Wides other, int k, int factor) {
            widenTo(other.used);
            for (int part = 0; part < other.used; part++) {
                rows[part][i] += factor * other.rows[part][k];
            }
            settle(i);
        }

        /** Adds the product of two numbers to number i. */
        void addProduct(int i, Wides a, int j, Wides b, int k) {
            widenTo(a.used + b.used);
            for (int part = 0; part < used && part < a.used + b.used - 1; part++) {
                long sum = 0L;
                for (int left = Math.max(part - b.used + 1, 0); left <= part && left < a.used; left++) {
                    sum += a.rows[left][j] * b.rows[part - left][k];
                }
                rows[part][i] += sum;
            }
            settle(i);
        }

        /** Multiplies by a factor of one part. */
        void multiply(int i, int factor) {
            for (int part = 0; part < used; part++) {
                rows[part][i] *= factor;
            }
            settle(i);
        }

        /** Rounded towards 0; a divisor of 0 changes nothing. */
        void divide(int i, int divisor) {
            if (divisor <= 0) {
                return;
            }
            boolean negative = rows[used - 1][i] < 0L;
            long rest = 0L;
            for (int part = used - 1; part >= 0; part--) {
                long dividend = (rest << PART_BITS) + rows[part][i];
                rows[part][i] = Math.floorDiv(dividend, (long) divisor);
                rest = Math.floorMod(dividend, (long) divisor);
            }
            if (negative && rest > 0L) {
                // rounded down so far
                rows[0][i]++;
                settle(i);
            }
        }

        /** Carries what is beyond the bounds of the parts of number i; all numbers get a part more if it needs one. */
        void settle(int i) {
            for (int part = 0; part + 1 < used; part++) {
                long value = rows[part][i];
                rows[part][i] = value & PART_MASK;
                rows[part + 1][i] += value >> PART_BITS;
            }
            for (int last = used - 1; last + 1 < MOST_PARTS && isBeyondPart(rows[last][i]); last++) {
                widenTo(last + 2);
            }
        }

        private static boolean isBeyondPart(long value) {
            long rest = value >> PART_BITS;
            return rest != 0L && rest != -1L;
        }

        /** Gives the numbers so many parts, if they have fewer. */
        void widenTo(int parts) {
            for (int part = used; part < parts && part < MOST_PARTS; part++) {
                if (rows[part].length == 0) {
                    rows[part] = new long[count];
                }
                for (int i = 0; i < count; i++) {
                    long last = rows[part - 1][i];
                    rows[part - 1][i] = last & PART_MASK;
                    rows[part][i] = last >> PART_BITS;
                }
                used = part + 1;
            }
        }

        /** Negative, 0 or positive, as number i is less than, equal to or greater than number k. */
        int compare(int i, int k) {
            int order = 0;
            for (int part = used - 1; part >= 0 && order == 0; part--) {
                order = Long.compare(rows[part][i], rows[part][k]);
            }
            return order;
        }

        boolean isZero(int i) {
            long bits = 0L;
            for (int part = 0; part < used; part++) {
                bits |= rows[part][i];
            }
            return bits == 0L;
        }

        /** The number, if it fits a long; otherwise its low bits. */
        long value(int i) {
            long value = 0L;
            for (int part = used - 1; part >= 0; part--) {
                value = (value << PART_BITS) + rows[part][i];
            }
            return value;
        }

        /**
         * The quotient of two numbers as floats, the first one not less than the second one; 0 if that is 0. Numbers
         * that no float can hold are brought down together, as their quotient would not be a number otherwise.
         */
        float ratio(int i, int k) {
            float divisor = leading(k);
            if (divisor == 0.0f) {
                return 0.0f;
            }
            float ratio = leading(i) / divisor;
            for (int part = partsBelow(k); part < partsBelow(i); part++) {
                ratio *= (float) (PART_MASK + 1L);
            }
            return ratio;
        }

        /** The number without its parts below, as a float, for numbers that are not negative. */
        private float leading(int i) {
            int below = partsBelow(i);
            long lost = 0L;
            for (int part = 0; part < below; part++) {
                lost |= rows[part][i];
            }
            long value = rows[below][i];
            if (below + 1 < used) {
                value += rows[below + 1][i] << PART_BITS;
            }
            // the lowest bit stands for all that are lost, so that the cast rounds as the whole number would
            return (float) (lost == 0L ? value : value | 1L);
        }

        /** How many parts are below the two leading ones. */
        private int partsBelow(int i) {
            for (int part = used - 1; part > 1; part--) {
                if (rows[part][i] != 0L) {
                    return part - 1;
                }
            }
            return 0;
        }

        /** The place of the given rank among the first numbers, greater ones first, of equal ones the smaller place. */
        int ranked(int first, int rank) {
            for (int i = 0; i < first; i++) {
                int before = 0;
                for (int k = 0; k < first; k++) {
                    int order = compare(k, i);
                    if (order > 0 || (order == 0 && k < i)) {
                        before++;
                    }
                }
                if (before == rank) {
                    return i;
                }
            }
            return NONE;
        }
    }

    /**
     * The bytes that wait to be parsed, and the tokens that they are cut into; the last one is END. A run or byte that
     * is no token is BROKEN.
     */
    private static final class Text {
        final int[] bytes = new int[MOST_BYTES];
        int length;
        final int[] kinds = new int[MOST_BYTES + 1];
        final int[] starts = new int[MOST_BYTES + 1];
        final int[] ends = new int[MOST_BYTES + 1];
        int count;

        void addWord(int word) {
            for (int shift = 24; shift >= 0; shift -= 8) {
                if (length < MOST_BYTES) {
                    bytes[length] = (word >>> shift) & 255;
                    length++;
                }
            }
        }

        /** Cuts the first n bytes. */
        void cut(int n) {
            count = 0;
            int at = 0;
            for (int i = 0; i < n && at < n; i++) {
                at = cutOne(n, at);
            }
            add(END, n, n);
        }

        private int cutOne(int n, int at) {
            int first = bytes[at];
            int end = at + 1;
            if (first >= 'a' && first <= 'z') {
                end = runEnd(n, at, 'a', 'z');
                add(end - at <= MOST_LETTERS ? WORD : BROKEN, at, end);
            } else if (first >= '0' && first <= '9') {
                end = runEnd(n, at, '0', '9');
                add(end - at <= MOST_DIGITS ? NUMBER : BROKEN, at, end);
            } else if (first == '-') {
                add(MINUS, at, end);
            } else if (first == ';') {
                add(SEMICOLON, at, end);
            } else if (first != ' ') {
                add(BROKEN, at, end);
            }
            return end;
        }

        private int runEnd(int n, int at, int least, int most) {
            for (int i = at; i < n; i++) {
                if (bytes[i] < least || bytes[i] > most) {
                    return i;
                }
            }
            return n;
        }

        private void add(int kind, int start, int end) {
            if (count < kinds.length) {
                kinds[count] = kind;
                starts[count] = start;
                ends[count] = end;
                count++;
            }
        }
    }

    /** Reads a text into a scene, or throws at the first error and tells its code and position. */
    private static final class Parser {
        private final Text text;
        private int at;
        int code;
        int position = NONE;

        Parser(Text text) {
            this.text = text;
        }

        /** Reads the first n bytes of the text. */
        void parse(int n, Scene scene) {
            text.cut(n);
            at = 0;
            scene.clear();
            parseHead(scene);
            for (int i = 0; i < text.count && kind() != END; i++) {
                if (kind() != SEMICOLON) {
                    failAt(at, NOT_ALLOWED);
                }
                at++;
                parseLine(scene);
            }
            if (scene.micCount == 0 || scene.grid.columns == 0) {
                failAt(at, MISSING);
            }
            code = 0;
            position = NONE;
        }

        private void parseHead(Scene scene) {
            takeWord("camera");
            takeWord("distance");
            scene.distance = number(100, 5000);
            takeWord("step");
            scene.step = number(1, 99);
            takeWord("samples");
            scene.samples = number(32, MOST_SAMPLES);
            takeWord("limit");
            scene.limit = number(1, 9999);
        }

        private void parseLine(Scene scene) {
            if (isWord("mic")) {
                parseMic(scene);
            } else if (isWord("map")) {
                parseMap(scene.grid);
            } else if (isWord("source")) {
                parseSource(scene);
            } else if (isWord("wall")) {
                parseWall(scene);
            } else if (isWord("fade")) {
                startLine(scene.fade > 0, REPEATED);
                scene.fade = number(1, 999);
            } else if (isWord("filter")) {
                parseFilter(scene);
            } else if (isWord("clock")) {
                parseClock(scene);
            } else if (isWord("zone")) {
                parseZone(scene.grid);
            } else if (isWord("shade")) {
                parseShade(scene);
            } else if (isWord("off")) {
                parseOff(scene);
            } else {
                failAt(at, NOT_ALLOWED);
            }
        }

        private void parseMic(Scene scene) {
            startLine(scene.micCount >= MOST_MICS, TOO_MANY);
            Mic mic = scene.mics[scene.micCount];
            mic.x = signed(-500, 500);
            mic.y = signed(-500, 500);
            mic.gain = number(1, 9);
            mic.offset = 0;
            scene.micCount++;
        }

        private void parseMap(Grid grid) {
            startLine(grid.columns > 0, REPEATED);
            grid.x = signed(-999, 999);
            grid.y = signed(-999, 999);
            grid.size = number(1, 99);
            int columns = number(1, MOST_SIDE);
            int rows = number(1, MOST_SIDE);
            grid.open(columns, rows);
        }

        private void parseSource(Scene scene) {
            startLine(scene.sourceCount >= MOST_SOURCES, TOO_MANY);
            Source source = scene.sources[scene.sourceCount];
            source.shape = shape();
            source.x = signed(-SOURCE_FARTHEST, SOURCE_FARTHEST);
            source.y = signed(-SOURCE_FARTHEST, SOURCE_FARTHEST);
            source.vx = signed(-FASTEST, FASTEST);
            source.vy = signed(-FASTEST, FASTEST);
            source.amp = number(1, 999);
            source.period = number(LEAST_PERIOD, MOST_PERIOD);
            source.phase = number(0, 99);
            source.from = 0;
            source.off = false;
            if (isWord("from")) {
                at++;
                source.from = number(0, 199);
            }
            scene.sourceCount++;
        }

        private int shape() {
            int shape = SQUARE;
            if (isWord("triangle")) {
                shape = TRIANGLE;
            } else if (isWord("pulse")) {
                shape = PULSE;
            } else if (isWord("noise")) {
                shape = NOISE;
            } else if (!isWord("square")) {
                failAt(at, NOT_ALLOWED);
            }
            at++;
            return shape;
        }

        private void parseWall(Scene scene) {
            startLine(scene.wallCount >= MOST_WALLS, TOO_MANY);
            scene.walls[scene.wallCount] = signed(-2000, 2000);
            scene.percents[scene.wallCount] = number(1, 100);
            scene.wallCount++;
        }

        private void parseFilter(Scene scene) {
            startLine(scene.tapCount > 0, REPEATED);
            scene.addTap(signed(-9, 9));
            for (int i = 1; i <= MOST_TAPS && (kind() == NUMBER || kind() == MINUS); i++) {
                if (i == MOST_TAPS) {
                    failAsTooMany(9);
                }
                scene.addTap(signed(-9, 9));
            }
        }

        private void parseClock(Scene scene) {
            startLine(false, REPEATED);
            int mic = number(0, scene.micCount - 1);
            if (scene.mics[mic].offset > 0) {
                failAt(at - 1, REPEATED);
            }
            scene.mics[mic].offset = number(1, 31);
        }

        private void parseZone(Grid grid) {
            startLine(grid.zoneCount >= MOST_ZONES, TOO_MANY);
            int[] zone = grid.zones[grid.zoneCount];
            // without a map no number is in these bounds, as the document wants
            zone[0] = number(0, grid.columns - 1);
            zone[1] = number(0, grid.rows - 1);
            zone[2] = number(zone[0], grid.columns - 1);
            zone[3] = number(zone[1], grid.rows - 1);
            grid.zoneCount++;
        }

        private void parseShade(Scene scene) {
            startLine(scene.shadeCount > 0, REPEATED);
            scene.addShade(number(0, MOST_WEIGHT));
            for (int i = 1; i <= MOST_SHADES && kind() == NUMBER; i++) {
                if (i == MOST_SHADES) {
                    failAsTooMany(MOST_WEIGHT);
                }
                scene.addShade(number(0, MOST_WEIGHT));
            }
        }

        private void parseOff(Scene scene) {
            startLine(false, REPEATED);
            int source = number(0, scene.sourceCount - 1);
            if (scene.sources[source].off) {
                failAt(at - 1, REPEATED);
            }
            scene.sources[source].off = true;
        }

        private void startLine(boolean refused, int error) {
            if (refused) {
                failAt(at, error);
            }
            at++;
        }

        private void takeWord(String word) {
            if (!isWord(word)) {
                failAt(at, NOT_ALLOWED);
            }
            at++;
        }

        private int signed(int least, int most) {
            if (kind() != MINUS) {
                return number(least, most);
            }
            at++;
            // the bounds of the digits behind a minus sign, which are never negative
            return -number(-most, -least);
        }

        private int number(int least, int most) {
            if (kind() != NUMBER) {
                failAt(at, NOT_ALLOWED);
            }
            int value = value();
            if (value < least || value > most) {
                failAt(at, OUT_OF_BOUNDS);
            }
            at++;
            return value;
        }

        private int kind() {
            return at < text.count ? text.kinds[at] : END;
        }

        private int value() {
            int value = 0;
            for (int i = text.starts[at]; i < text.ends[at]; i++) {
                value = 10 * value + text.bytes[i] - '0';
            }
            return value;
        }

        private boolean isWord(String word) {
            if (kind() != WORD) {
                return false;
            }
            int start = text.starts[at];
            int length = text.ends[at] - start;
            if (length != word.length()) {
                return false;
            }
            for (int i = 0; i < length; i++) {
                if (text.bytes[start + i] != word.charAt(i)) {
                    return false;
                }
            }
            return true;
        }

        /** At a number beyond the last place of its line: being out of its bounds would be the smaller code. */
        private void failAsTooMany(int most) {
            failAt(at, kind() == NUMBER && value() > most ? OUT_OF_BOUNDS : TOO_MANY);
        }

        private void failAt(int token, int error) {
            code = error;
            position = token >= 0 && token < text.count ? text.starts[token] : 0;
            throw new IllegalArgumentException();
        }
    }

    private static final class Mic {
        int x;
        int y;
        int gain;
        /** 0 if no clock line tells one. */
        int offset;
    }

    /** A source as the text tells it. */
    private static final class Source {
        int shape;
        int x;
        int y;
        int vx;
        int vy;
        int amp;
        int period;
        int phase;
        int from;
        boolean off;

        int valueAt(int t) {
            if (t < from) {
                return 0;
            }
            int k = remainder(t + phase, period);
            switch (shape) {
                case SQUARE:
                    return k < period / 2 ? amp : -amp;
                case TRIANGLE:
                    return (int) quotient(amp * (4 * Math.abs(k - period / 2) - period), period);
                case PULSE:
                    return k == 0 ? amp : 0;
                default:
                    return remainder(31 * t * t + 7919 * t + 104729 * phase, 2 * amp + 1) - amp;
            }
        }
    }

    /** The cells of the map and its zones; an area is told as first column, first row, last column, last row. */
    private static final class Grid {
        int x;
        int y;
        int size;
        int columns;
        int rows;
        final int[] whole = new int[4];
        final int[][] zones = new int[MOST_ZONES][4];
        int zoneCount;
        private final int[] around = new int[4];

        void clear() {
            columns = 0;
            rows = 0;
            zoneCount = 0;
        }

        void open(int columnCount, int rowCount) {
            columns = columnCount;
            rows = rowCount;
            whole[2] = columnCount - 1;
            whole[3] = rowCount - 1;
        }

        int cells() {
            return columns * rows;
        }

        int columnOf(int cell) {
            return remainder(cell, columns);
        }

        int rowOf(int cell) {
            return (int) quotient(cell, columns);
        }

        int centreX(int cell) {
            return x + size * columnOf(cell);
        }

        int centreY(int cell) {
            return y + size * rowOf(cell);
        }

        /** The area of a cell and its neighbours; the same array every time. */
        int[] areaAround(int cell) {
            int column = columnOf(cell);
            int row = rowOf(cell);
            around[0] = Math.max(column - 1, 0);
            around[1] = Math.max(row - 1, 0);
            around[2] = Math.min(column + 1, columns - 1);
            around[3] = Math.min(row + 1, rows - 1);
            return around;
        }

        /** The smallest cell of those of an area that have the greatest value; the values begin at start. */
        int bestIn(int[] area, Wides values, int start) {
            int best = area[1] * columns + area[0];
            for (int row = area[1]; row <= area[3]; row++) {
                for (int column = area[0]; column <= area[2]; column++) {
                    int cell = row * columns + column;
                    if (values.compare(start + cell, start + best) > 0) {
                        best = cell;
                    }
                }
            }
            return best;
        }
    }

    /** A camera as its text tells it; changes do not touch it. */
    private static final class Scene {
        int distance;
        int step;
        int samples;
        int limit;
        final Mic[] mics = new Mic[MOST_MICS];
        int micCount;
        final Grid grid = new Grid();
        final Source[] sources = new Source[MOST_SOURCES];
        int sourceCount;
        final int[] walls = new int[MOST_WALLS];
        final int[] percents = new int[MOST_WALLS];
        int wallCount;
        /** 0 if there is no fade line. */
        int fade;
        final int[] taps = new int[MOST_TAPS];
        int tapCount;
        final int[] shades = new int[MOST_SHADES];
        int shadeCount;
        /** By cell, then by microphone. */
        final int[][] delays = new int[MOST_CELLS][MOST_MICS];

        Scene() {
            for (int i = 0; i < MOST_MICS; i++) {
                mics[i] = new Mic();
            }
            for (int i = 0; i < MOST_SOURCES; i++) {
                sources[i] = new Source();
            }
        }

        void clear() {
            grid.clear();
            micCount = 0;
            sourceCount = 0;
            wallCount = 0;
            fade = 0;
            tapCount = 0;
            shadeCount = 0;
        }

        void addTap(int tap) {
            if (tapCount < MOST_TAPS) {
                taps[tapCount] = tap;
                tapCount++;
            }
        }

        void addShade(int weight) {
            if (shadeCount < MOST_SHADES) {
                shades[shadeCount] = weight;
                shadeCount++;
            }
        }

        int delayFrom(Mic mic, int x, int y) {
            int dx = x - mic.x;
            int dy = y - mic.y;
            int way = root(dx * dx + dy * dy + distance * distance);
            return (int) (quotient(way, step) - quotient(distance, step));
        }

        void delaysFrom(int x, int y, int[] row) {
            for (int mic = 0; mic < micCount; mic++) {
                row[mic] = delayFrom(mics[mic], x, y);
            }
        }

        void measureDelays() {
            for (int cell = 0; cell < grid.cells(); cell++) {
                delaysFrom(grid.centreX(cell), grid.centreY(cell), delays[cell]);
            }
        }
    }

    /** Everything that changes alter, and what can be heard of it. */
    private static final class State {
        int micCount;
        int sampleCount;
        int timesCleaned;
        final boolean[] muted = new boolean[MOST_MICS];
        final int[] weights = new int[MOST_MICS];
        final boolean[] on = new boolean[MOST_SOURCES];
        final int[] x = new int[MOST_SOURCES];
        final int[] y = new int[MOST_SOURCES];
        final int[] vx = new int[MOST_SOURCES];
        final int[] vy = new int[MOST_SOURCES];
        /** The samples of all microphones, at their places; no bound holds them in once they are cleaned. */
        final Wides samples = new Wides(MOST_MICS * MOST_SAMPLES);
        /** The beam that focus() has made. */
        final Wides beam = new Wides(1);

        static int placeOf(int mic, int t) {
            return mic * MOST_SAMPLES + t;
        }

        void begin(Scene scene) {
            micCount = scene.micCount;
            sampleCount = scene.samples;
            for (int mic = 0; mic < MOST_MICS; mic++) {
                muted[mic] = false;
                weights[mic] = mic < scene.shadeCount ? scene.shades[mic] : 1;
            }
            for (int i = 0; i < MOST_SOURCES; i++) {
                Source source = scene.sources[i];
                on[i] = !source.off;
                x[i] = source.x;
                y[i] = source.y;
                vx[i] = source.vx;
                vy[i] = source.vy;
            }
        }

        void copyFrom(State other) {
            micCount = other.micCount;
            sampleCount = other.sampleCount;
            timesCleaned = other.timesCleaned;
            for (int mic = 0; mic < MOST_MICS; mic++) {
                muted[mic] = other.muted[mic];
                weights[mic] = other.weights[mic];
            }
            for (int i = 0; i < MOST_SOURCES; i++) {
                on[i] = other.on[i];
                x[i] = other.x[i];
                y[i] = other.y[i];
                vx[i] = other.vx[i];
                vy[i] = other.vy[i];
            }
            samples.copyFrom(other.samples);
        }

        int activeMics() {
            int count = 0;
            for (int mic = 0; mic < micCount; mic++) {
                count += muted[mic] ? 0 : 1;
            }
            return count;
        }

        int activeWeight() {
            int sum = 0;
            for (int mic = 0; mic < micCount; mic++) {
                sum += muted[mic] ? 0 : weights[mic];
            }
            return sum;
        }

        /** 0 if no microphone is active. */
        int greatestDelay(int[] delays) {
            int greatest = 0;
            for (int mic = 0; mic < micCount; mic++) {
                if (!muted[mic]) {
                    greatest = Math.max(greatest, delays[mic]);
                }
            }
            return greatest;
        }

        /** 0 if no microphone is active. */
        int smallestDelay(int[] delays) {
            int smallest = greatestDelay(delays);
            for (int mic = 0; mic < micCount; mic++) {
                if (!muted[mic]) {
                    smallest = Math.min(smallest, delays[mic]);
                }
            }
            return smallest;
        }

        int windowOf(int[] delays) {
            return Math.max(sampleCount - greatestDelay(delays), 0);
        }

        /** Makes the beam at t, part by part. */
        void focus(int[] delays, int t) {
            beam.narrow();
            beam.widenTo(samples.used);
            for (int part = 0; part < samples.used; part++) {
                beam.rows[part][0] = weighted(samples.rows[part], delays, t);
            }
            beam.settle(0);
        }

        /** The sum that the beam has of a row of parts; samples beyond the recordings count as 0. */
        private long weighted(long[] row, int[] delays, int t) {
            long sum = 0L;
            for (int mic = 0; mic < micCount; mic++) {
                int at = t + delays[mic];
                if (!muted[mic] && at >= 0 && at < sampleCount) {
                    sum += weights[mic] * row[placeOf(mic, at)];
                }
            }
            return sum;
        }

        /** As the block of its window has it; a window of 0 leaves the sum, which is 0 then. */
        void powerOf(int[] delays, Wides out, int place) {
            blockPowerOf(delays, 0, windowOf(delays), out, place);
        }

        void blockPowerOf(int[] delays, int from, int length, Wides out, int place) {
            int end = Math.min(from + length, windowOf(delays));
            out.clear(place);
            for (int t = from; t < end; t++) {
                focus(delays, t);
                out.addProduct(place, beam, 0, beam, 0);
            }
            out.divide(place, length);
        }

        void productSum(int mic, int other, int lag, Wides out, int place) {
            out.clear(place);
            for (int t = 0; t + lag < sampleCount; t++) {
                out.addProduct(place, samples, placeOf(mic, t), samples, placeOf(other, t + lag));
            }
        }

        /** The samples that a beam is made of are its own at each t, so no beam is changed before it is subtracted. */
        void subtractBeam(int[] delays, int percent) {
            int whole = 100 * activeWeight();
            int end = windowOf(delays);
            for (int t = 0; t < end; t++) {
                focus(delays, t);
                beam.multiply(0, percent);
                beam.divide(0, whole);
                for (int mic = 0; mic < micCount; mic++) {
                    int at = t + delays[mic];
                    if (!muted[mic] && at >= 0 && at < sampleCount) {
                        samples.add(placeOf(mic, at), beam, 0, -1);
                    }
                }
            }
            timesCleaned++;
        }
    }

    /** Makes the recordings of a state. */
    private static final class Recorder {
        /** What each microphone hears at each sample, before gain, clock and filter. */
        private final int[][] heard = new int[MOST_MICS][MOST_SAMPLES];
        private final Source probe = new Source();

        void record(Scene scene, State state) {
            silence();
            for (int i = 0; i < scene.sourceCount; i++) {
                if (state.on[i]) {
                    Source source = scene.sources[i];
                    for (int t = 0; t < scene.samples; t++) {
                        hear(scene, source, moved(state.x[i], state.vx[i], t), moved(state.y[i], state.vy[i], t), t);
                    }
                }
            }
            finish(scene, state);
        }

        /** The recordings of pointBest: one source at rest in the centre of a cell. */
        void recordPoint(Scene scene, State state, int cell, int period) {
            silence();
            probe.shape = SQUARE;
            probe.amp = PROBE_AMP;
            probe.period = period;
            int x = scene.grid.centreX(cell);
            int y = scene.grid.centreY(cell);
            for (int t = 0; t < scene.samples; t++) {
                hear(scene, probe, x, y, t);
            }
            finish(scene, state);
        }

        private void silence() {
            for (int mic = 0; mic < MOST_MICS; mic++) {
                Arrays.fill(heard[mic], 0);
            }
        }

        private void hear(Scene scene, Source source, int x, int y, int t) {
            for (int i = 0; i < scene.micCount; i++) {
                Mic mic = scene.mics[i];
                int sum = arriving(scene, source, scene.delayFrom(mic, x, y), t);
                for (int wall = 0; wall < scene.wallCount; wall++) {
                    int delay = scene.delayFrom(mic, 2 * scene.walls[wall] - x, y);
                    sum += arriving(scene, source, delay, t) * scene.percents[wall] / 100;
                }
                heard[i][t] += sum;
            }
        }

        private static int arriving(Scene scene, Source source, int delay, int t) {
            if (t < delay) {
                return 0;
            }
            int value = source.valueAt(t - delay);
            return scene.fade > 0 ? (int) quotient(value * scene.fade, scene.fade + delay) : value;
        }

        private void finish(Scene scene, State state) {
            state.samples.narrow();
            for (int mic = 0; mic < scene.micCount; mic++) {
                for (int t = 0; t < scene.samples; t++) {
                    int value = scene.tapCount > 0 ? filtered(scene, mic, t) : raw(scene, mic, t);
                    state.samples.put(State.placeOf(mic, t), Math.max(-scene.limit, Math.min(scene.limit, value)));
                }
            }
            state.timesCleaned = 0;
        }

        private int filtered(Scene scene, int mic, int t) {
            int sum = 0;
            for (int i = 0; i < scene.tapCount; i++) {
                sum += scene.taps[i] * raw(scene, mic, t - i);
            }
            return sum;
        }

        private int raw(Scene scene, int mic, int t) {
            int at = t - scene.mics[mic].offset;
            return at >= 0 && at < MOST_SAMPLES ? scene.mics[mic].gain * heard[mic][at] : 0;
        }
    }

    /** The powers of all cells, the best cell and the peaks. */
    private static final class PowerMap {
        /** For the one who keeps the map: whether it is still that of the state. */
        boolean known;
        final Wides of = new Wides(MOST_CELLS);
        int best;
        int peakCount;
        private final int[] peakCells = new int[MOST_CELLS];
        private final Wides peakPowers = new Wides(MOST_CELLS);

        void measure(Scene scene, State state) {
            of.narrow();
            peakPowers.narrow();
            for (int cell = 0; cell < scene.grid.cells(); cell++) {
                int[] delays = scene.delays[cell];
                state.blockPowerOf(delays, 0, state.windowOf(delays), of, cell);
            }
            best = scene.grid.bestIn(scene.grid.whole, of, 0);
            peakCount = 0;
            for (int cell = 0; cell < scene.grid.cells(); cell++) {
                if (standsOut(cell, scene.grid)) {
                    peakCells[peakCount] = cell;
                    peakPowers.set(peakCount, of, cell);
                    peakCount++;
                }
            }
        }

        /** The cell with the greatest power of those other than the best one; NONE if there is none. */
        int second(int cells) {
            int second = NONE;
            for (int cell = 0; cell < cells; cell++) {
                if (cell != best && (second == NONE || of.compare(cell, second) > 0)) {
                    second = cell;
                }
            }
            return second;
        }

        void sumIn(int[] area, Grid grid, Wides out, int place) {
            out.clear(place);
            for (int row = area[1]; row <= area[3]; row++) {
                for (int column = area[0]; column <= area[2]; column++) {
                    out.add(place, of, row * grid.columns + column, 1);
                }
            }
        }

        boolean standsOut(int cell, Grid grid) {
            int[] area = grid.areaAround(cell);
            for (int row = area[1]; row <= area[3]; row++) {
                for (int column = area[0]; column <= area[2]; column++) {
                    int other = row * grid.columns + column;
                    if (other != cell && of.compare(other, cell) >= 0) {
                        return false;
                    }
                }
            }
            return true;
        }

        int peakRanked(int rank) {
            int place = peakPowers.ranked(peakCount, rank);
            return place == NONE ? NONE : peakCells[place];
        }

        /** 9 * the power of the cell / the greatest one, rounded down; 0 if that is 0. Two numbers of work are used. */
        int digit(int cell, Wides work) {
            work.clear(0);
            work.clear(1);
            work.add(0, of, cell, 9);
            int digit = 0;
            for (int i = 1; i <= 9 && !of.isZero(best); i++) {
                work.add(1, of, best, 1);
                digit = work.compare(0, 1) >= 0 ? i : digit;
            }
            return digit;
        }
    }

    /** The powers of blocks, and the best track through them. */
    private static final class Blocks {
        /** A row of cells for each block: the greatest score of a track from there to the last block. */
        final Wides scores = new Wides(MOST_BLOCKS * MOST_CELLS);

        int bestOf(Scene scene, State state, int from, int length) {
            scores.narrow();
            measure(scene, state, from, length, 0);
            return scene.grid.bestIn(scene.grid.whole, scores, 0);
        }

        void score(Scene scene, State state, int length) {
            int count = Math.min((int) quotient(scene.samples, length), MOST_BLOCKS);
            scores.narrow();
            for (int block = count - 1; block >= 0; block--) {
                measure(scene, state, block * length, length, block);
                for (int cell = 0; cell < scene.grid.cells() && block + 1 < count; cell++) {
                    int row = rowStart(block + 1);
                    int next = scene.grid.bestIn(scene.grid.areaAround(cell), scores, row);
                    scores.add(rowStart(block) + cell, scores, row + next, 1);
                }
            }
        }

        /** A cell of the best track, by the scores computed last; the smallest cells first, as the document wants. */
        int trackCellIn(Grid grid, int block) {
            int cell = grid.bestIn(grid.whole, scores, 0);
            for (int i = 1; i <= block && i < MOST_BLOCKS; i++) {
                cell = grid.bestIn(grid.areaAround(cell), scores, rowStart(i));
            }
            return cell;
        }

        /** Puts the powers of all cells in the samples from one on into the row of a block. */
        private void measure(Scene scene, State state, int from, int length, int block) {
            for (int cell = 0; cell < scene.grid.cells(); cell++) {
                state.blockPowerOf(scene.delays[cell], from, length, scores, rowStart(block) + cell);
            }
        }

        private static int rowStart(int block) {
            return block * MOST_CELLS;
        }
    }
}
