import java.math.BigInteger;
import java.util.ArrayList;
import java.util.Arrays;
import java.util.Comparator;
import java.util.HashSet;
import java.util.List;
import java.util.Map;
import java.util.Set;
import java.util.TreeSet;
import java.util.regex.Matcher;
import java.util.regex.Pattern;
import java.util.stream.Collectors;

/**
 * The document written down a second time, sentence by sentence, slow and with the Java library: what ModelTest holds
 * the class against. It shares no code with the class, and computes everything anew at each question.
 * Samples and what is worked out of them are BigIntegers, as nothing bounds what cleanings let them grow to; an answer
 * that does not fit its type is what is left of it there.
 */
public final class Model {
    /** A line of the text: its word, its wave (or null), its numbers. */
    private record Line(String word, String wave, List<Integer> numbers, int from) { }

    private record Camera(int distance, int step, int samples, int limit, Map<String, List<Line>> lines) {
        List<Line> all(String word) {
            return lines.getOrDefault(word, List.of());
        }

        List<Integer> only(String word) {
            List<Line> found = all(word);
            return found.isEmpty() ? List.of() : found.get(0).numbers;
        }
    }

    /** x, y, vx, vy of each source by "what" and number, and so on: one map per property. */
    private record State(boolean[] muted, int[] weight, boolean[] on, int[][] place, BigInteger[][] recordings,
            int cleaned) {
        State copy() {
            return new State(muted.clone(), weight.clone(), on.clone(),
                    Arrays.stream(place).map(int[]::clone).toArray(int[][]::new),
                    Arrays.stream(recordings).map(BigInteger[]::clone).toArray(BigInteger[][]::new), cleaned);
        }
    }

    @SuppressWarnings("serial")
    private static final class Stop extends RuntimeException {
        final int code;
        final int position;

        Stop(int code, int position) {
            this.code = code;
            this.position = position;
        }
    }

    private final StringBuilder buffer = new StringBuilder();
    private int code = 0;
    private int position = -1;
    private Camera camera = null;
    private State state = null;
    private final List<State> past = new ArrayList<>();
    private final State[] slots = new State[2];
    private String map = "";

    // ---- the text

    public int append(int a, int b, int c, int d, int e) {
        if (buffer.length() > 980) {
            return -1;
        }
        for (int word : new int[] {a, b, c, d, e}) {
            for (byte part : java.nio.ByteBuffer.allocate(4).putInt(word).array()) {
                buffer.append((char) Byte.toUnsignedInt(part));
            }
        }
        return buffer.length();
    }

    public int load(int n) {
        if (n < 0 || n > buffer.length()) {
            throw new IndexOutOfBoundsException();
        }
        String text = buffer.substring(0, n);
        buffer.setLength(0);
        Camera parsed;
        try {
            parsed = new Reader(text).read();
        } catch (Stop stop) {
            code = stop.code;
            position = stop.position;
            throw new IllegalArgumentException();
        }
        code = 0;
        position = -1;
        camera = parsed;
        state = firstState();
        past.clear();
        slots[0] = null;
        slots[1] = null;
        return cells();
    }

    private State firstState() {
        int mics = camera.all("mic").size();
        int sources = camera.all("source").size();
        List<Integer> shade = camera.only("shade");
        int[] weight = new int[mics];
        for (int k = 0; k < mics; k++) {
            weight[k] = k < shade.size() ? shade.get(k) : 1;
        }
        boolean[] on = new boolean[sources];
        int[][] place = new int[sources][];
        for (int s = 0; s < sources; s++) {
            int number = s;
            on[s] = camera.all("off").stream().noneMatch(line -> line.numbers.get(0) == number);
            place[s] = camera.all("source").get(s).numbers.subList(0, 4).stream().mapToInt(i -> i).toArray();
        }
        State bare = new State(new boolean[mics], weight, on, place, null, 0);
        return new State(bare.muted, weight, on, place, recordings(bare), 0);
    }

    /** Cuts and parses; every token is asked for all the errors that apply to it, and the smallest code is told. */
    private static final class Reader {
        private static final Pattern TOKEN = Pattern.compile("[a-z]+|[0-9]+|[^ ]", Pattern.DOTALL);
        private static final Map<String, String> LINES = Map.of(
                "mic", "s500 s500 n1:9", "map", "s999 s999 n1:99 n1:12 n1:12",
                "source", "w s2000 s2000 s999 s999 n1:999 n2:99 n0:99 f", "wall", "s2000 n1:100", "fade", "n1:999",
                "filter", "s9 S9", "clock", "m n1:31", "zone", "c r C R", "shade", "n0:9 N9", "off", "o");
        private static final Map<String, Integer> MOST = Map.of("mic", 12, "source", 6, "wall", 2, "zone", 4);
        private static final Set<String> ONCE = Set.of("map", "fade", "filter", "shade");
        private static final Set<String> WAVES = Set.of("square", "triangle", "pulse", "noise");

        private final List<String> tokens = new ArrayList<>();
        private final List<Integer> starts = new ArrayList<>();
        private final List<Line> lines = new ArrayList<>();
        private int next = 0;

        Reader(String text) {
            Matcher matcher = TOKEN.matcher(text);
            while (matcher.find()) {
                tokens.add(matcher.group());
                starts.add(matcher.start());
            }
            tokens.add("");
            starts.add(text.length());
        }

        Camera read() {
            literal("camera");
            literal("distance");
            int distance = number(100, 5000, 0);
            literal("step");
            int step = number(1, 99, 0);
            literal("samples");
            int samples = number(32, 200, 0);
            literal("limit");
            int limit = number(1, 9999, 0);
            while (!is("")) {
                literal(";");
                line();
            }
            if (count("mic") == 0 || count("map") == 0) {
                stop(5);
            }
            return new Camera(distance, step, samples, limit,
                    lines.stream().collect(Collectors.groupingBy(Line::word)));
        }

        private void line() {
            String word = tokens.get(next);
            if (!LINES.containsKey(word)) {
                stop(1);
            }
            Set<Integer> codes = new TreeSet<>();
            if (ONCE.contains(word) && count(word) > 0) {
                codes.add(3);
            }
            if (MOST.containsKey(word) && count(word) >= MOST.get(word)) {
                codes.add(4);
            }
            for (int found : codes) {
                stop(found);
            }
            next++;
            List<Integer> numbers = new ArrayList<>();
            String wave = null;
            int from = 0;
            for (String part : LINES.get(word).split(" ")) {
                switch (part.charAt(0)) {
                    case 'w' -> {
                        wave = tokens.get(next);
                        if (!WAVES.contains(wave)) {
                            stop(1);
                        }
                        next++;
                    }
                    case 'f' -> {
                        if (is("from")) {
                            next++;
                            from = number(0, 199, 0);
                        }
                    }
                    case 's' -> numbers.add(signed(Integer.parseInt(part.substring(1)), 0));
                    case 'S' -> {
                        while (is("-") || isNumber()) {
                            numbers.add(signed(9, numbers.size() >= 5 ? 4 : 0));
                        }
                    }
                    case 'N' -> {
                        while (isNumber()) {
                            numbers.add(number(0, 9, numbers.size() >= 12 ? 4 : 0));
                        }
                    }
                    case 'm' -> numbers.add(number(0, count("mic") - 1, told("clock") ? 3 : 0));
                    case 'o' -> numbers.add(number(0, count("source") - 1, told("off") ? 3 : 0));
                    case 'c' -> numbers.add(number(0, mapNumber(3) - 1, 0));
                    case 'r' -> numbers.add(number(0, mapNumber(4) - 1, 0));
                    case 'C' -> numbers.add(number(numbers.get(0), mapNumber(3) - 1, 0));
                    case 'R' -> numbers.add(number(numbers.get(1), mapNumber(4) - 1, 0));
                    default -> {
                        String[] bounds = part.substring(1).split(":");
                        numbers.add(number(Integer.parseInt(bounds[0]), Integer.parseInt(bounds[1]), 0));
                    }
                }
            }
            lines.add(new Line(word, wave, numbers, from));
        }

        /** Whether a line of this word has told the number that stands here. */
        private boolean told(String word) {
            return isNumber() && lines.stream().anyMatch(line ->
                    line.word.equals(word) && line.numbers.get(0) == Integer.parseInt(tokens.get(next)));
        }

        private int mapNumber(int which) {
            return lines.stream().filter(line -> line.word.equals("map")).findFirst()
                    .map(line -> line.numbers.get(which)).orElse(0);
        }

        private int count(String word) {
            return (int) lines.stream().filter(line -> line.word.equals(word)).count();
        }

        private int signed(int bound, int otherCode) {
            if (!is("-")) {
                return number(0, bound, otherCode);
            }
            if (otherCode > 0) {
                stop(otherCode);
            }
            next++;
            return -number(0, bound, 0);
        }

        /** A number with its bounds, and the code of another error that applies to it (0 if none does). */
        private int number(int least, int most, int otherCode) {
            if (!isNumber()) {
                stop(1);
            }
            int value = Integer.parseInt(tokens.get(next));
            if (value < least || value > most) {
                stop(2);
            }
            if (otherCode > 0) {
                stop(otherCode);
            }
            next++;
            return value;
        }

        private boolean isNumber() {
            return tokens.get(next).matches("[0-9]{1,4}");
        }

        private boolean is(String token) {
            return tokens.get(next).equals(token);
        }

        private void literal(String token) {
            if (!is(token)) {
                stop(1);
            }
            next++;
        }

        private void stop(int found) {
            throw new Stop(found, starts.get(next));
        }
    }

    public int parseError() {
        return code;
    }

    public int errorPosition() {
        return position;
    }

    public int buffered() {
        return buffer.length();
    }

    // ---- the parts

    public int mics() {
        return camera == null ? 0 : camera.all("mic").size();
    }

    public int micAt(int mic, int what) {
        camera();
        index(mic, mics());
        range(what, 0, 3);
        return what == 3 ? state.weight[mic] : camera.all("mic").get(mic).numbers.get(what);
    }

    public boolean isMuted(int mic) {
        camera();
        index(mic, mics());
        return state.muted[mic];
    }

    public int columns() {
        return camera == null ? 0 : camera.only("map").get(3);
    }

    public int rows() {
        return camera == null ? 0 : camera.only("map").get(4);
    }

    private int cells() {
        return columns() * rows();
    }

    public int cellAt(int cell, int axis) {
        camera();
        index(cell, cells());
        range(axis, 0, 1);
        return centre(cell)[axis];
    }

    private int[] centre(int cell) {
        List<Integer> numbers = camera.only("map");
        int column = cell % columns();
        int row = cell / columns();
        return new int[] {numbers.get(0) + numbers.get(2) * column, numbers.get(1) + numbers.get(2) * row};
    }

    public int sources() {
        return camera == null ? 0 : camera.all("source").size();
    }

    public int sourceAt(int source, int axis, int t) {
        camera();
        index(source, sources());
        range(axis, 0, 1);
        range(t, 0, samples() - 1);
        return state.place[source][axis] + state.place[source][axis + 2] * t / 100;
    }

    public boolean isOn(int source) {
        camera();
        index(source, sources());
        return state.on[source];
    }

    public int waveAt(int source, int t) {
        camera();
        index(source, sources());
        range(t, 0, samples() - 1);
        return wave(camera.all("source").get(source), t);
    }

    private static int wave(Line source, int t) {
        int amp = source.numbers.get(4);
        int period = source.numbers.get(5);
        int phase = source.numbers.get(6);
        if (t < source.from) {
            return 0;
        }
        int k = (t + phase) % period;
        return switch (source.wave) {
            case "square" -> k < period / 2 ? amp : -amp;
            case "triangle" -> amp * (4 * Math.abs(k - period / 2) - period) / period;
            case "pulse" -> k == 0 ? amp : 0;
            default -> (int) ((31L * t * t + 7919L * t + 104729L * phase) % (2 * amp + 1) - amp);
        };
    }

    public int samples() {
        return camera == null ? 0 : camera.samples;
    }

    // ---- delays

    public int delay(int mic, int cell) {
        camera();
        index(mic, mics());
        index(cell, cells());
        return delayFrom(centre(cell)[0], centre(cell)[1], mic);
    }

    public int delayTo(int mic, int x, int y) {
        camera();
        index(mic, mics());
        range(x, -9999, 9999);
        range(y, -9999, 9999);
        return delayFrom(x, y, mic);
    }

    private int delayFrom(int x, int y, int mic) {
        List<Integer> numbers = camera.all("mic").get(mic).numbers;
        long dx = x - numbers.get(0);
        long dy = y - numbers.get(1);
        // squares below 2 to the power of 53 have exact roots as doubles, and others are never rounded up to one
        int r = (int) Math.floor(Math.sqrt(dx * dx + dy * dy + (double) camera.distance * camera.distance));
        return r / camera.step - camera.distance / camera.step;
    }

    private List<Integer> active(State at) {
        List<Integer> found = new ArrayList<>();
        for (int mic = 0; mic < mics(); mic++) {
            if (!at.muted[mic]) {
                found.add(mic);
            }
        }
        return found;
    }

    public int spread(int cell) {
        camera();
        index(cell, cells());
        var delays = active(state).stream().mapToInt(mic -> delay(mic, cell)).summaryStatistics();
        return delays.getCount() == 0 ? 0 : delays.getMax() - delays.getMin();
    }

    public int window(int cell) {
        camera();
        index(cell, cells());
        return window(state, centre(cell));
    }

    private int window(State at, int[] point) {
        int most = active(at).stream().mapToInt(mic -> delayFrom(point[0], point[1], mic)).max().orElse(0);
        return Math.max(0, samples() - most);
    }

    // ---- recordings, beams and powers

    private BigInteger[][] recordings(State at) {
        List<int[][]> heard = new ArrayList<>();
        for (int s = 0; s < sources(); s++) {
            if (at.on[s]) {
                heard.add(heard(camera.all("source").get(s), at.place[s]));
            }
        }
        return recordings(heard);
    }

    private BigInteger[][] recordings(List<int[][]> heard) {
        BigInteger[][] made = new BigInteger[mics()][samples()];
        List<Integer> filter = camera.only("filter").isEmpty() ? List.of(1) : camera.only("filter");
        for (int mic = 0; mic < mics(); mic++) {
            int number = mic;
            int offset = camera.all("clock").stream().filter(line -> line.numbers.get(0) == number)
                    .mapToInt(line -> line.numbers.get(1)).findFirst().orElse(0);
            int gain = camera.all("mic").get(mic).numbers.get(2);
            for (int t = 0; t < samples(); t++) {
                long sum = 0;
                for (int i = 0; i < filter.size(); i++) {
                    int when = t - i - offset;
                    for (int[][] one : heard) {
                        sum += when < 0 ? 0 : (long) filter.get(i) * gain * one[mic][when];
                    }
                }
                made[mic][t] = BigInteger.valueOf(Math.max(-camera.limit, Math.min(camera.limit, sum)));
            }
        }
        return made;
    }

    private int[][] heard(Line source, int[] place) {
        int[][] heard = new int[mics()][samples()];
        for (int t = 0; t < samples(); t++) {
            int x = place[0] + place[2] * t / 100;
            int y = place[1] + place[3] * t / 100;
            for (int mic = 0; mic < mics(); mic++) {
                heard[mic][t] = arriving(source, delayFrom(x, y, mic), t);
                for (Line wall : camera.all("wall")) {
                    int image = arriving(source, delayFrom(2 * wall.numbers.get(0) - x, y, mic), t);
                    heard[mic][t] += image * wall.numbers.get(1) / 100;
                }
            }
        }
        return heard;
    }

    private int arriving(Line source, int d, int t) {
        int value = t - d < 0 ? 0 : wave(source, t - d);
        for (int fade : camera.only("fade")) {
            value = value * fade / (fade + d);
        }
        return value;
    }

    public int sample(int mic, int t) {
        camera();
        index(mic, mics());
        range(t, 0, samples() - 1);
        return state.recordings[mic][t].intValue();
    }

    public int beam(int cell, int t) {
        camera();
        index(cell, cells());
        range(t, 0, window(cell) - 1);
        return beam(state, centre(cell), t).intValue();
    }

    private BigInteger beam(State at, int[] point, int t) {
        BigInteger sum = BigInteger.ZERO;
        for (int mic : active(at)) {
            int when = t + delayFrom(point[0], point[1], mic);
            if (when < samples()) {
                sum = sum.add(at.recordings[mic][when].multiply(BigInteger.valueOf(at.weight[mic])));
            }
        }
        return sum;
    }

    private BigInteger power(State at, int[] point) {
        int window = window(at, point);
        BigInteger sum = BigInteger.ZERO;
        for (int t = 0; t < window; t++) {
            sum = sum.add(beam(at, point, t).pow(2));
        }
        return window == 0 ? BigInteger.ZERO : sum.divide(BigInteger.valueOf(window));
    }

    private BigInteger[] powers(State at) {
        BigInteger[] found = new BigInteger[cells()];
        for (int cell = 0; cell < found.length; cell++) {
            found[cell] = power(at, centre(cell));
        }
        return found;
    }

    private static int first(BigInteger[] values) {
        return Arrays.asList(values).indexOf(Arrays.stream(values).max(Comparator.naturalOrder()).get());
    }

    private static BigInteger sum(List<BigInteger> values) {
        return values.stream().reduce(BigInteger.ZERO, BigInteger::add);
    }

    public long power(int cell) {
        camera();
        index(cell, cells());
        return power(state, centre(cell)).longValue();
    }

    public long powerAt(int x, int y) {
        camera();
        range(x, -9999, 9999);
        range(y, -9999, 9999);
        return power(state, new int[] {x, y}).longValue();
    }

    public int best() {
        camera();
        return first(powers(state));
    }

    public long bestPower() {
        camera();
        return powers(state)[best()].longValue();
    }

    public long meanPower() {
        camera();
        return sum(List.of(powers(state))).divide(BigInteger.valueOf(cells())).longValue();
    }

    private boolean neighbours(int cell, int other) {
        return Math.abs(cell % columns() - other % columns()) <= 1
                && Math.abs(cell / columns() - other / columns()) <= 1 && cell != other;
    }

    private List<Integer> peakList(BigInteger[] powers) {
        List<Integer> found = new ArrayList<>();
        for (int cell = 0; cell < powers.length; cell++) {
            boolean peak = true;
            for (int other = 0; other < powers.length; other++) {
                peak &= !neighbours(cell, other) || powers[cell].compareTo(powers[other]) > 0;
            }
            if (peak) {
                found.add(cell);
            }
        }
        found.sort(Comparator.comparing((Integer cell) -> powers[cell].negate()).thenComparing(cell -> cell));
        return found;
    }

    public int peaks() {
        camera();
        return peakList(powers(state)).size();
    }

    public int peakAt(int rank) {
        camera();
        List<Integer> found = peakList(powers(state));
        index(rank, found.size());
        return found.get(rank);
    }

    public boolean isPeak(int cell) {
        camera();
        index(cell, cells());
        return peakList(powers(state)).contains(cell);
    }

    private List<Integer> zoneCells(int zone) {
        List<Integer> zoneNumbers = camera.all("zone").get(zone).numbers;
        List<Integer> found = new ArrayList<>();
        for (int cell = 0; cell < cells(); cell++) {
            int column = cell % columns();
            int row = cell / columns();
            if (column >= zoneNumbers.get(0) && row >= zoneNumbers.get(1)
                    && column <= zoneNumbers.get(2) && row <= zoneNumbers.get(3)) {
                found.add(cell);
            }
        }
        return found;
    }

    public long zonePower(int zone) {
        camera();
        index(zone, camera.all("zone").size());
        return sum(zoneCells(zone).stream().map(cell -> power(state, centre(cell))).toList()).longValue();
    }

    public int zoneBest(int zone) {
        camera();
        index(zone, camera.all("zone").size());
        return zoneCells(zone).stream()
                .max(Comparator.comparing((Integer cell) -> power(state, centre(cell))).thenComparing(cell -> -cell))
                .get();
    }

    public float contrast() {
        camera();
        BigInteger[] powers = powers(state);
        Arrays.sort(powers);
        int n = powers.length;
        return n == 1 || powers[n - 2].signum() == 0 ? 0 : floatQuotient(powers[n - 1], powers[n - 2]);
    }

    /** Floats have 24 bits of a number; those that are too great for a float are taken without their exponents. */
    private static float floatQuotient(BigInteger one, BigInteger two) {
        int shift = Math.max(0, one.bitLength() - 100);
        int otherShift = Math.max(0, two.bitLength() - 100);
        return Math.scalb(leading(one, shift) / leading(two, otherShift), shift - otherShift);
    }

    private static float leading(BigInteger value, int shift) {
        BigInteger rest = value.shiftRight(shift);
        boolean exact = rest.shiftLeft(shift).equals(value);
        return (exact ? rest : rest.setBit(0)).floatValue();
    }

    // ---- aliases

    public int alias(int cell, int other, int period) {
        camera();
        index(cell, cells());
        index(other, cells());
        range(period, 2, 99);
        int[] counts = new int[period];
        for (int mic : active(state)) {
            counts[Math.floorMod(delay(mic, cell) - delay(mic, other), period)]++;
        }
        return Arrays.stream(counts).max().getAsInt();
    }

    public boolean isAlias(int cell, int period, int share) {
        camera();
        index(cell, cells());
        range(period, 2, 99);
        range(share, 1, 100);
        return aliasSet(period, share).contains(cell);
    }

    public int aliases(int period, int share) {
        camera();
        range(period, 2, 99);
        range(share, 1, 100);
        return aliasSet(period, share).size();
    }

    private Set<Integer> aliasSet(int period, int share) {
        Set<Integer> found = new HashSet<>();
        int best = best();
        for (int cell : peakList(powers(state))) {
            int number = active(state).size();
            if (cell != best && number > 0 && 100 * alias(cell, best, period) >= share * number) {
                found.add(cell);
            }
        }
        return found;
    }

    // ---- blocks and moving focus

    public long blockPower(int cell, int from, int length) {
        camera();
        index(cell, cells());
        range(from, 0, samples() - 1);
        range(length, 1, samples());
        return blockPowers(from, length)[cell].longValue();
    }

    private BigInteger[] blockPowers(int from, int length) {
        BigInteger[] found = new BigInteger[cells()];
        for (int cell = 0; cell < found.length; cell++) {
            int window = window(cell);
            BigInteger sum = BigInteger.ZERO;
            for (int t = from; t < from + length; t++) {
                sum = t < window ? sum.add(beam(state, centre(cell), t).pow(2)) : sum;
            }
            found[cell] = sum.divide(BigInteger.valueOf(length));
        }
        return found;
    }

    public int blockBest(int from, int length) {
        camera();
        range(from, 0, samples() - 1);
        range(length, 1, samples());
        return first(blockPowers(from, length));
    }

    public int path(int length) {
        camera();
        range(length, 4, samples());
        int changes = 0;
        for (int block = 1; block < samples() / length; block++) {
            changes += blockBest(block * length, length) != blockBest((block - 1) * length, length) ? 1 : 0;
        }
        return changes;
    }

    public long trackScore(int length) {
        camera();
        range(length, 4, samples());
        List<Integer> track = track(length);
        BigInteger score = BigInteger.ZERO;
        for (int block = 0; block < track.size(); block++) {
            score = score.add(blockPowers(block * length, length)[track.get(block)]);
        }
        return score.longValue();
    }

    public int trackCell(int length, int block) {
        camera();
        if (length >= 4 && length <= samples()) {
            index(block, samples() / length);
        }
        range(length, 4, samples());
        return track(length).get(block);
    }

    /** From the first block on, the best track to each cell, of equal scores the one with the smaller cells. */
    private List<Integer> track(int length) {
        List<List<Integer>> tracks = new ArrayList<>();
        BigInteger[] scores = new BigInteger[cells()];
        for (int block = 0; block < samples() / length; block++) {
            BigInteger[] powers = blockPowers(block * length, length);
            List<List<Integer>> longer = new ArrayList<>();
            BigInteger[] sums = new BigInteger[cells()];
            for (int cell = 0; cell < cells(); cell++) {
                int before = -1;
                for (int other = 0; block > 0 && other < cells(); other++) {
                    boolean near = other == cell || neighbours(cell, other);
                    if (near && (before < 0 || scores[other].compareTo(scores[before]) > 0
                            || scores[other].equals(scores[before]) && less(tracks.get(other), tracks.get(before)))) {
                        before = other;
                    }
                }
                List<Integer> one = new ArrayList<>(before < 0 ? List.of() : tracks.get(before));
                one.add(cell);
                longer.add(one);
                sums[cell] = powers[cell].add(before < 0 ? BigInteger.ZERO : scores[before]);
            }
            tracks = longer;
            scores = sums;
        }
        int found = 0;
        for (int cell = 1; cell < cells(); cell++) {
            if (scores[cell].compareTo(scores[found]) > 0
                    || scores[cell].equals(scores[found]) && less(tracks.get(cell), tracks.get(found))) {
                found = cell;
            }
        }
        return tracks.get(found);
    }

    private static boolean less(List<Integer> one, List<Integer> two) {
        int at = 0;
        while (at < one.size() && one.get(at).equals(two.get(at))) {
            at++;
        }
        return at < one.size() && one.get(at) < two.get(at);
    }

    public long movingPower(int cell, int vx, int vy) {
        camera();
        index(cell, cells());
        range(vx, -999, 999);
        range(vy, -999, 999);
        return moving(cell, vx, vy).longValue();
    }

    private BigInteger moving(int cell, int vx, int vy) {
        BigInteger sum = BigInteger.ZERO;
        for (int t = 0; t < samples(); t++) {
            int[] point = {centre(cell)[0] + vx * t / 100, centre(cell)[1] + vy * t / 100};
            sum = sum.add(beam(state, point, t).pow(2));
        }
        return sum.divide(BigInteger.valueOf(samples()));
    }

    public int bestVelocity(int cell, int step, int most) {
        camera();
        index(cell, cells());
        range(step, 1, 99);
        range(most, 0, 4);
        int found = -1;
        BigInteger greatest = BigInteger.ONE.negate();
        for (int number = 0; number <= 100 * 2 * most + 2 * most; number++) {
            int i = number / 100 - most;
            int k = number % 100 - most;
            if (k <= most && moving(cell, step * i, step * k).compareTo(greatest) > 0) {
                greatest = moving(cell, step * i, step * k);
                found = number;
            }
        }
        return found;
    }

    // ---- microphones compared

    public long correlation(int mic, int other, int lag) {
        camera();
        index(mic, mics());
        index(other, mics());
        range(lag, 0, samples() - 1);
        return productSum(mic, other, lag).longValue();
    }

    private BigInteger productSum(int mic, int other, int lag) {
        BigInteger sum = BigInteger.ZERO;
        for (int t = 0; t <= samples() - 1 - lag; t++) {
            sum = sum.add(state.recordings[mic][t].multiply(state.recordings[other][t + lag]));
        }
        return sum;
    }

    public int bestLag(int mic, int other, int most) {
        camera();
        index(mic, mics());
        index(other, mics());
        range(most, 0, samples() - 1);
        BigInteger[] found = new BigInteger[most + 1];
        for (int lag = 0; lag <= most; lag++) {
            found[lag] = productSum(mic, other, lag);
        }
        return first(found);
    }

    public long level(int mic) {
        camera();
        index(mic, mics());
        return exactLevel(mic).longValue();
    }

    private BigInteger exactLevel(int mic) {
        return sum(Arrays.stream(state.recordings[mic]).map(value -> value.pow(2)).toList())
                .divide(BigInteger.valueOf(samples()));
    }

    public int loudest(int rank) {
        camera();
        index(rank, mics());
        List<Integer> order = new ArrayList<>();
        for (int mic = 0; mic < mics(); mic++) {
            order.add(mic);
        }
        order.sort(Comparator.comparing((Integer mic) -> exactLevel(mic).negate()).thenComparing(mic -> mic));
        return order.get(rank);
    }

    // ---- the map as a text

    public int writeMap() {
        camera();
        StringBuilder text = new StringBuilder();
        BigInteger[] powers = powers(state);
        BigInteger greatest = powers[first(powers)];
        for (int row = 0; row < rows(); row++) {
            text.append(row > 0 ? ";" : "");
            for (int column = 0; column < columns(); column++) {
                BigInteger nine = powers[row * columns() + column].multiply(BigInteger.valueOf(9));
                text.append(greatest.signum() == 0 ? 0 : nine.divide(greatest).intValueExact());
            }
        }
        map = text.toString();
        return map.length();
    }

    public int mapByte(int i) {
        index(i, map.length());
        return map.charAt(i);
    }

    // ---- what-if questions

    private State point(int cell, int period) {
        int[] centre = centre(cell);
        Line source = new Line("source", "square", List.of(centre[0], centre[1], 0, 0, 100, period, 0), 0);
        BigInteger[][] made = recordings(List.<int[][]>of(heard(source, new int[] {centre[0], centre[1], 0, 0})));
        return new State(state.muted, state.weight, state.on, state.place, made, 0);
    }

    public int pointBest(int cell, int period) {
        camera();
        index(cell, cells());
        range(period, 2, 99);
        return first(powers(point(cell, period)));
    }

    public long pointPower(int cell, int other, int period) {
        camera();
        index(cell, cells());
        index(other, cells());
        range(period, 2, 99);
        return powers(point(cell, period))[other].longValue();
    }

    public int bestWithout(int mic) {
        camera();
        index(mic, mics());
        State other = state.copy();
        other.muted[mic] = true;
        return first(powers(other));
    }

    public int bestIfOff(int source) {
        camera();
        index(source, sources());
        State other = state.copy();
        other.on[source] = false;
        return first(powers(new State(other.muted, other.weight, other.on, other.place, recordings(other), 0)));
    }

    // ---- changes

    private void change(State changed) {
        past.add(state);
        if (past.size() > 6) {
            past.remove(0);
        }
        state = changed;
    }

    private void changeAnew(State changed) {
        change(new State(changed.muted, changed.weight, changed.on, changed.place, recordings(changed), 0));
    }

    public boolean mute(int mic, boolean muted) {
        camera();
        index(mic, mics());
        State changed = state.copy();
        changed.muted[mic] = muted;
        change(changed);
        return past.get(past.size() - 1).muted[mic];
    }

    public int setWeight(int mic, int weight) {
        camera();
        index(mic, mics());
        range(weight, 0, 9);
        State changed = state.copy();
        changed.weight[mic] = weight;
        change(changed);
        return past.get(past.size() - 1).weight[mic];
    }

    public boolean setOn(int source, boolean on) {
        camera();
        index(source, sources());
        State changed = state.copy();
        changed.on[source] = on;
        changeAnew(changed);
        return past.get(past.size() - 1).on[source];
    }

    public int moveSource(int source, int x, int y) {
        camera();
        index(source, sources());
        range(x, -2000, 2000);
        range(y, -2000, 2000);
        return setPlace(source, 0, x, y);
    }

    public int setVelocity(int source, int vx, int vy) {
        camera();
        index(source, sources());
        range(vx, -999, 999);
        range(vy, -999, 999);
        return setPlace(source, 2, vx, vy);
    }

    private int setPlace(int source, int first, int one, int two) {
        State changed = state.copy();
        changed.place[source][first] = one;
        changed.place[source][first + 1] = two;
        changeAnew(changed);
        return best();
    }

    public int clean(int percent) {
        camera();
        int sum = active(state).stream().mapToInt(mic -> state.weight[mic]).sum();
        if (sum == 0) {
            throw new IllegalStateException();
        }
        range(percent, 1, 100);
        int best = best();
        State copied = state.copy();
        State changed = new State(copied.muted, copied.weight, copied.on, copied.place, copied.recordings,
                copied.cleaned + 1);
        for (int t = 0; t < window(best); t++) {
            for (int mic : active(state)) {
                BigInteger part = beam(state, centre(best), t).multiply(BigInteger.valueOf(percent))
                        .divide(BigInteger.valueOf(100 * sum));
                int when = t + delay(mic, best);
                changed.recordings[mic][when] = changed.recordings[mic][when].subtract(part);
            }
        }
        change(changed);
        return best;
    }

    public int cleaned() {
        camera();
        return state.cleaned;
    }

    public int undo() {
        if (past.isEmpty()) {
            throw new IllegalStateException();
        }
        state = past.remove(past.size() - 1);
        return past.size();
    }

    public int undoable() {
        return past.size();
    }

    public int save(int slot) {
        camera();
        index(slot, 2);
        slots[slot] = state;
        return best();
    }

    public int restore(int slot) {
        index(slot, 2);
        if (slots[slot] == null) {
            throw new IllegalStateException();
        }
        state = slots[slot];
        past.clear();
        return best();
    }

    // ---- exceptions

    private void camera() {
        if (camera == null) {
            throw new IllegalStateException();
        }
    }

    private static void index(int index, int count) {
        if (index < 0 || index >= count) {
            throw new IndexOutOfBoundsException();
        }
    }

    private static void range(int value, int least, int most) {
        if (value < least || value > most) {
            throw new IllegalArgumentException();
        }
    }
}
