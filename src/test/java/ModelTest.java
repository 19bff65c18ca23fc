import java.lang.reflect.InvocationTargetException;
import java.lang.reflect.Method;
import java.util.ArrayList;
import java.util.Arrays;
import java.util.Collections;
import java.util.List;
import java.util.Map;
import java.util.Random;
import java.util.TreeMap;
import java.util.stream.LongStream;

/**
 * Many runs of calls, the same ones on the class and on the model; every answer must be the same. Two arguments choose
 * the number of runs and the first one: a run is made from its number alone.
 */
public final class ModelTest {
    private static final int RUNS = 800;
    private static final int GREAT_RUNS = 160;
    private static final int TEXTS = 6000;
    private static final int MOST_CALLS = 512;
    private static final Map<String, String> ARGUMENTS = arguments();
    private static final List<String> CHANGES =
            List.of("mute", "setWeight", "setOn", "moveSource", "setVelocity", "clean", "clean", "undo", "restore");
    private static final List<String> SMALL_CHANGES = List.of("mute", "setWeight", "clean", "undo", "save");
    private static final Map<String, Method> METHODS = new TreeMap<>();

    private final Random random;
    private final AcousticCamera camera = new AcousticCamera();
    private final Model model = new Model();
    private final List<String> calls = new ArrayList<>();

    private ModelTest(long seed) {
        random = new Random(seed);
    }

    public static void main(String[] args) {
        for (Method method : AcousticCamera.class.getMethods()) {
            if (method.getDeclaringClass() == AcousticCamera.class) {
                METHODS.put(method.getName(), method);
            }
        }
        List<String> names = new ArrayList<>(METHODS.keySet());
        names.removeAll(List.of("append", "load"));
        if (!names.equals(new ArrayList<>(ARGUMENTS.keySet()))) {
            System.out.println("the methods are not those that the test knows: " + names);
            System.exit(1);
        }
        int runs = args.length > 0 ? Integer.parseInt(args[0]) : RUNS;
        long first = args.length > 1 ? Long.parseLong(args[1]) : 0;
        boolean right = LongStream.range(first, first + runs).parallel()
                .mapToObj(seed -> new ModelTest(seed).run(names)).reduce(true, Boolean::logicalAnd);
        boolean great = LongStream.range(first, first + runs * GREAT_RUNS / RUNS).parallel()
                .mapToObj(seed -> new ModelTest(seed).runGreat(names)).reduce(true, Boolean::logicalAnd);
        boolean parsed = LongStream.range(first, first + TEXTS).parallel()
                .mapToObj(seed -> new ModelTest(seed).parse()).reduce(true, Boolean::logicalAnd);
        System.exit(right && great && parsed ? 0 : 1);
    }

    /** By method, a letter for each argument. */
    private static Map<String, String> arguments() {
        Map<String, String> found = new TreeMap<>();
        String table = "parseError: errorPosition: buffered: mics: micAt:mw isMuted:m columns: rows: cellAt:ca sources:"
                + " sourceAt:sat isOn:s waveAt:st samples: delay:mc delayTo:mxx spread:c window:c sample:mt beam:ct"
                + " power:c powerAt:xx best: bestPower: meanPower: peaks: peakAt:r isPeak:c zonePower:z zoneBest:z"
                + " contrast: alias:ccp isAlias:cph aliases:ph blockPower:ctl blockBest:tl path:l trackScore:l"
                + " trackCell:lb movingPower:cvv bestVelocity:cpn correlation:mmt bestLag:mmt level:m loudest:m"
                + " writeMap: mapByte:i pointBest:cp pointPower:ccp bestWithout:m bestIfOff:s mute:m! setWeight:mg"
                + " setOn:s! moveSource:sXX setVelocity:svv clean:h cleaned: undo: undoable: save:k restore:k";
        for (String entry : table.split(" ")) {
            String[] parts = entry.split(":", -1);
            found.put(parts[0], parts[1]);
        }
        return found;
    }

    private boolean run(List<String> names) {
        int texts = 1 + random.nextInt(4);
        for (int i = 0; i < texts; i++) {
            String text = random.nextInt(3) == 0 ? spoiled(text()) : text();
            if (!loads(text)) {
                return false;
            }
            if (!asks(names, CHANGES, random.nextInt(70), 4)) {
                return false;
            }
        }
        return true;
    }

    private boolean asks(List<String> names, List<String> changes, int count, int oneChangeIn) {
        for (int k = 0; k < count; k++) {
            List<String> from = random.nextInt(oneChangeIn) == 0 ? changes : names;
            String name = from.get(random.nextInt(from.size()));
            if (!same(name, argumentsFor(name))) {
                return false;
            }
        }
        return true;
    }

    /**
     * Cleanings in turns that let the samples grow, some 0.9 bits a turn: past an int, and the sums past a long; in all
     * the calls of an object the samples times a percent, too.
     */
    private boolean runGreat(List<String> names) {
        if (!loads(loudText()) || !same("setWeight", new Object[] {0, 0})) {
            return false;
        }
        List<String> questions = new ArrayList<>(names);
        questions.removeAll(CHANGES);
        int turns = 15 + random.nextInt(40);
        for (int i = 0; i < turns && calls.size() <= MOST_CALLS - 11; i++) {
            if (!turn(0, 2, 1) || (i % 8 == 7 && !asks(questions, questions, random.nextInt(6), 1))
                    || (i % 8 == 0 && !same("contrast", new Object[0]))) {
                return false;
            }
        }
        return asks(questions, SMALL_CHANGES, Math.min(60, MOST_CALLS - calls.size()), 12);
    }

    private boolean turn(int one, int two, int three) {
        return same("mute", new Object[] {two, true}) && same("clean", new Object[] {100})
                && same("mute", new Object[] {two, false}) && same("mute", new Object[] {three, true})
                && same("clean", new Object[] {100}) && same("mute", new Object[] {three, false})
                && same("setWeight", new Object[] {one, 9}) && same("clean", new Object[] {100})
                && same("setWeight", new Object[] {one, 0});
    }

    private boolean parse() {
        String text = spoiled(text());
        return loads(random.nextBoolean() ? text : spoiled(text)) && same("mics", new Object[0])
                && same("sources", new Object[0]) && same("rows", new Object[0]);
    }

    private boolean loads(String text) {
        int length = Math.min(text.length(), 1000);
        String padded = text.substring(0, length) + " ".repeat((1000 - length) % 20);
        for (int at = 0; at < padded.length(); at += 20) {
            Object[] words = new Object[5];
            for (int i = 0; i < 5; i++) {
                words[i] = 0;
                for (int k = 0; k < 4; k++) {
                    words[i] = ((Integer) words[i] << 8) | padded.charAt(at + 4 * i + k);
                }
            }
            if (!same("append", words)) {
                return false;
            }
        }
        int wrong = random.nextInt(40) == 0 ? random.nextInt(30) - 3 : 0;
        return (random.nextInt(20) > 0 || same("load", new Object[] {random.nextBoolean() ? -1 : 1001}))
                && (random.nextInt(20) > 0 || same("append", new Object[] {1, 2, 3, 4, 5}))
                && same("load", new Object[] {length + wrong}) && same("parseError", new Object[0])
                && same("errorPosition", new Object[0]) && same("buffered", new Object[0]);
    }

    private boolean same(String name, Object[] values) {
        calls.add(name + Arrays.toString(values));
        Object got = answer(camera, name, values);
        Object want = answer(model, name, values);
        if (!got.equals(want)) {
            System.out.println(calls + " answered " + got + ", due is " + want);
        }
        return got.equals(want);
    }

    private static Object answer(Object target, String name, Object[] values) {
        try {
            return target.getClass().getMethod(name, METHODS.get(name).getParameterTypes()).invoke(target, values);
        } catch (InvocationTargetException e) {
            return e.getCause().getClass().getName();
        } catch (ReflectiveOperationException e) {
            return "no call: " + e;
        }
    }

    private Object[] argumentsFor(String name) {
        String letters = ARGUMENTS.get(name);
        Object[] values = new Object[letters.length()];
        for (int i = 0; i < values.length; i++) {
            values[i] = argument(letters.charAt(i));
        }
        return values;
    }

    private Object argument(char letter) {
        int cells = model.columns() * model.rows();
        int samples = model.samples();
        return switch (letter) {
            case '!' -> random.nextBoolean();
            case 'm' -> about(0, model.mics() - 1);
            case 'w' -> about(0, 3);
            case 'c' -> about(0, cells - 1);
            case 'a' -> about(0, 1);
            case 's' -> about(0, model.sources() - 1);
            case 't' -> about(0, samples - 1);
            case 'x' -> random.nextBoolean() ? about(-9999, 9999) : about(-500, 500);
            case 'X' -> random.nextBoolean() ? about(-2000, 2000) : about(-500, 500);
            case 'r' -> about(0, 3);
            case 'z' -> about(0, 2);
            case 'p' -> about(2, 99);
            case 'h' -> about(1, 100);
            case 'l' -> random.nextBoolean() ? about(4, samples) : about(1, 20);
            case 'b' -> about(0, 8);
            case 'v' -> about(-999, 999);
            case 'n' -> random.nextInt(3) > 0 ? about(0, 1) : about(0, 4);
            case 'i' -> about(0, cells + model.rows() - 2);
            case 'g' -> about(0, 9);
            case 'k' -> about(0, 1);
            default -> throw new IllegalStateException("no such letter " + letter);
        };
    }

    /** Mostly within the bounds, often at them, now and then beyond them. */
    private int about(int least, int most) {
        int way = random.nextInt(30);
        if (way == 0) {
            return least - 1;
        }
        if (way == 1) {
            return most + 1;
        }
        if (way == 2) {
            return random.nextBoolean() ? Integer.MIN_VALUE : Integer.MAX_VALUE;
        }
        if (way == 3) {
            return least;
        }
        return way == 4 || most <= least ? most : between(least, most);
    }

    private int between(int least, int most) {
        return least + random.nextInt(most - least + 1);
    }

    private String text() {
        StringBuilder text = new StringBuilder("camera distance " + between(100, random.nextInt(4) == 0 ? 5000 : 400)
                + " step " + between(1, 40) + " samples " + between(32, random.nextInt(3) == 0 ? 200 : 60) + " limit "
                + (random.nextInt(4) == 0 ? between(1, 200) : between(1000, 9999)));
        List<String> lines = new ArrayList<>();
        int side = random.nextInt(8) == 0 ? 12 : 4;
        int columns = between(1, side);
        int rows = between(1, side);
        lines.add("map " + signed(random.nextInt(4) == 0 ? 999 : 200) + signed(200) + between(1, 99) + " " + columns
                + " " + rows);
        int mics = between(1, random.nextInt(5) == 0 ? 12 : 4);
        int sources = random.nextInt(8) == 0 ? 6 : random.nextInt(4);
        for (int i = 0; i < mics; i++) {
            add(lines, "mic " + signed(random.nextInt(3) == 0 ? 500 : 100) + signed(100) + between(1, 9));
        }
        for (int i = 0; i < sources; i++) {
            add(lines, source());
        }
        for (int i = 0; i < random.nextInt(3); i++) {
            add(lines, "wall " + signed(random.nextInt(3) == 0 ? 2000 : 300) + between(1, 100));
        }
        if (random.nextInt(3) == 0) {
            add(lines, "fade " + between(1, 999));
        }
        if (random.nextInt(3) == 0) {
            add(lines, "filter " + signedList(between(1, 5)));
        }
        if (random.nextInt(3) == 0) {
            add(lines, "shade " + "1 2 3 9 0 4 1 1 0 5 7 2".substring(0, 2 * between(1, 12) - 1));
        }
        if (random.nextInt(3) == 0) {
            lines.add("clock " + random.nextInt(mics) + " " + between(1, 31));
        }
        if (sources > 0 && random.nextInt(3) == 0) {
            lines.add("off " + random.nextInt(sources));
        }
        for (int i = 0; i < random.nextInt(3); i++) {
            int column = random.nextInt(columns);
            int row = random.nextInt(rows);
            lines.add("zone " + column + " " + row + " " + between(column, columns - 1) + " " + between(row, rows - 1));
        }
        for (String line : lines) {
            text.append(random.nextBoolean() ? ";" : " ; ").append(line);
        }
        return text.toString();
    }

    /** Three microphones or more, near together, and loud sources before them. */
    private String loudText() {
        int columns = between(1, 5);
        int rows = between(1, 5);
        // delays that are nearly all the same let the samples grow fastest
        boolean far = random.nextInt(4) > 0;
        StringBuilder text = new StringBuilder("camera distance " + between(far ? 3000 : 200, 5000) + " step "
                + between(far ? 40 : 5, 99)
                + " samples " + between(32, 80) + " limit " + between(5000, 9999) + ";map " + signed(100) + signed(100)
                + between(1, 99) + " " + columns + " " + rows + ";zone 0 0 " + (columns - 1) + " " + (rows - 1));
        for (int i = between(3, random.nextBoolean() ? 3 : 5); i > 0; i--) {
            text.append(";mic " + signed(100) + signed(100) + between(1, 9));
        }
        for (int i = between(1, 3); i > 0; i--) {
            String wave = List.of("square", "triangle", "noise").get(random.nextInt(3));
            String velocity = random.nextBoolean() ? "0 0 " : signed(99) + signed(99);
            text.append(";source " + wave + " " + signed(300) + signed(300) + velocity + between(100, 999) + " "
                    + between(2, 30) + " " + between(0, 99));
        }
        if (random.nextInt(4) == 0) {
            text.append(";filter " + between(1, 9) + " " + signedList(2));
        }
        return text.toString();
    }

    private void add(List<String> lines, String line) {
        lines.add(random.nextInt(lines.size() + 1), line);
    }

    private String source() {
        String wave = List.of("square", "triangle", "pulse", "noise").get(random.nextInt(4));
        String velocity = random.nextInt(3) == 0 ? signed(999) + signed(999) : "0 0 ";
        return "source " + wave + " " + signed(random.nextInt(4) == 0 ? 2000 : 300) + signed(300) + velocity
                + between(1, random.nextInt(3) == 0 ? 999 : 60) + " " + between(2, random.nextInt(3) == 0 ? 99 : 12)
                + " " + between(0, 99) + (random.nextInt(4) == 0 ? " from " + random.nextInt(200) : "");
    }

    private String signed(int most) {
        return between(-most, most) + " ";
    }

    private String signedList(int count) {
        StringBuilder list = new StringBuilder();
        for (int i = 0; i < count; i++) {
            list.append(signed(9));
        }
        return list.toString();
    }

    /** A text with a token or a byte changed, put in, taken out, or the end cut off. */
    private String spoiled(String text) {
        String[] pieces = {"mic", "map", ";", "-", "from", "0", "10", "13", "99", "9999", "12345", "filter", "shade",
            "fade", "clock 0 1", "off 0", "zone", "wall 1 1", "mic 0 0 1", "source", "abcdefghi", "Q", "\u00e9", "\0",
            "; fade 5", "; filter 1 -2 3 -4 5 -6", "; filter 1 2 3 4 5 10", "; shade 1 2 3 4 5 6 7 8 9 0 1 2 3",
            "; shade 1 2 3 4 5 6 7 8 9 0 1 2 10", "; zone 0 0 0 0", "1", "500", "; mic 0 0 1", "; wall 0 1", "; off 0",
            "; clock 0 1", "; map 0 0 1 1 1", "; source noise 0 0 0 0 1 2 0", "; fade 1", "; shade 2", "; filter 3"};
        String piece = pieces[random.nextInt(pieces.length)];
        List<String> tokens = new ArrayList<>(List.of(text.split(" ")));
        int at = random.nextInt(tokens.size());
        switch (random.nextInt(5)) {
            case 0 -> tokens.set(at, piece);
            case 1 -> tokens.add(at, piece);
            case 2 -> tokens.remove(at);
            case 3 -> tokens.addAll(Collections.nCopies(random.nextBoolean() ? 1 : 1 + random.nextInt(13), piece));
            default -> {
                // a text spoiled before may be empty
                int cut = random.nextInt(Math.max(text.length(), 1));
                String rest = text.substring(Math.min(cut + 1, text.length()));
                return text.substring(0, cut) + (random.nextBoolean() ? "" : rest);
            }
        }
        return String.join(" ", tokens);
    }
}
