import java.lang.reflect.InvocationTargetException;
import java.lang.reflect.Method;
import java.util.Arrays;
import java.util.Map;
import java.util.Set;
import java.util.function.Function;
import java.util.stream.Collectors;

/**
 * Calls as texts: "beam(0,7)", with 1 and 0 for true and false. An answer is a text, too: S, X or A for an
 * IllegalStateException, IndexOutOfBoundsException or IllegalArgumentException.
 */
public final class Calls {
    private static final Map<String, Method> METHODS = Arrays.stream(AcousticCamera.class.getDeclaredMethods())
            .filter(method -> java.lang.reflect.Modifier.isPublic(method.getModifiers()))
            .collect(Collectors.toMap(Method::getName, Function.identity()));

    /** Changes, and what else is no question. */
    public static final Set<String> NO_QUESTIONS = Set.of("append", "load", "mute", "setWeight", "setOn",
            "moveSource", "setVelocity", "clean", "undo", "save", "restore", "writeMap");

    /** What needs no camera, or tells of something else first. */
    public static final Set<String> ELSEWHERE = Set.of("append", "load", "parseError", "errorPosition", "buffered",
            "mics", "columns", "rows", "sources", "samples", "mapByte", "undoable", "restore");

    /** Two microphones, 6 cells, a source, 32 samples, two zones, two peaks at the most. */
    public static final String TEXT = "camera distance 100 step 1 samples 32 limit 9999;mic 0 0 1;mic 75 0 2"
            + ";map 0 0 75 3 2;source pulse 0 0 0 0 10 16 0;zone 0 0 1 1;zone 1 1 1 1";

    /**
     * Calls on a new camera with this text, and what they throw; the numbers at a bound and beyond it, one wrong
     * number alone, and several of them where exceptions have an order.
     */
    public static final String WRONG = """
            micAt(-1,0)X micAt(2,0)X micAt(2,4)X micAt(0,-1)A micAt(0,4)A isMuted(-1)X isMuted(2)X
            cellAt(-1,0)X cellAt(6,0)X cellAt(6,2)X cellAt(5,-1)A cellAt(5,2)A
            sourceAt(-1,0,0)X sourceAt(1,0,0)X sourceAt(1,2,32)X sourceAt(0,2,0)A sourceAt(0,-1,0)A
            sourceAt(0,0,-1)A sourceAt(0,0,32)A isOn(-1)X isOn(1)X waveAt(1,0)X waveAt(-1,-1)X waveAt(0,-1)A
            waveAt(0,32)A delay(2,0)X delay(-1,0)X delay(0,6)X delay(0,-1)X delayTo(2,0,0)X delayTo(-1,10000,0)X
            delayTo(0,10000,0)A delayTo(0,-10000,0)A delayTo(0,0,10000)A delayTo(0,0,-10000)A
            spread(6)X spread(-1)X window(6)X window(-1)X sample(2,0)X sample(-1,32)X sample(0,32)A sample(0,-1)A
            beam(6,0)X beam(-1,-1)X beam(0,-1)A beam(0,7)A power(6)X power(-1)X powerAt(10000,0)A powerAt(-10000,0)A
            powerAt(0,10000)A powerAt(0,-10000)A peakAt(-1)X peakAt(6)X isPeak(6)X isPeak(-1)X
            zonePower(2)X zonePower(-1)X zoneBest(2)X zoneBest(-1)X
            alias(6,0,2)X alias(-1,0,2)X alias(0,6,2)X alias(0,-1,1)X alias(0,0,1)A alias(0,0,100)A
            isAlias(6,2,1)X isAlias(-1,1,0)X isAlias(0,1,1)A isAlias(0,100,1)A isAlias(0,2,0)A isAlias(0,2,101)A
            aliases(1,1)A aliases(100,1)A aliases(2,0)A aliases(2,101)A
            blockPower(6,0,1)X blockPower(-1,-1,0)X blockPower(0,-1,1)A blockPower(0,32,1)A blockPower(0,0,0)A
            blockPower(0,0,33)A blockBest(-1,1)A blockBest(32,1)A blockBest(0,0)A blockBest(0,33)A
            path(3)A path(33)A trackScore(3)A trackScore(33)A trackCell(4,8)X trackCell(4,-1)X trackCell(32,1)X
            trackCell(3,0)A trackCell(33,0)A trackCell(0,0)A trackCell(-4,9)A
            movingPower(6,0,0)X movingPower(-1,1000,0)X movingPower(0,1000,0)A movingPower(0,-1000,0)A
            movingPower(0,0,1000)A movingPower(0,0,-1000)A bestVelocity(6,1,0)X bestVelocity(-1,0,5)X
            bestVelocity(0,0,0)A bestVelocity(0,100,0)A bestVelocity(0,1,-1)A bestVelocity(0,1,5)A
            correlation(2,0,0)X correlation(0,2,0)X correlation(-1,0,32)X correlation(0,-1,0)X correlation(0,0,-1)A
            correlation(0,0,32)A bestLag(2,0,0)X bestLag(0,2,0)X bestLag(-1,0,32)X bestLag(0,-1,0)X bestLag(0,0,-1)A
            bestLag(0,0,32)A level(2)X level(-1)X loudest(2)X loudest(-1)X mapByte(0)X mapByte(-1)X
            pointBest(6,2)X pointBest(-1,1)X pointBest(0,1)A pointBest(0,100)A pointPower(6,0,2)X pointPower(0,6,2)X
            pointPower(-1,0,1)X pointPower(0,-1,2)X pointPower(0,0,1)A pointPower(0,0,100)A
            bestWithout(2)X bestWithout(-1)X bestIfOff(1)X bestIfOff(-1)X mute(2,1)X mute(-1,0)X
            setWeight(2,0)X setWeight(-1,10)X setWeight(0,10)A setWeight(0,-1)A setOn(1,0)X setOn(-1,1)X
            moveSource(1,0,0)X moveSource(-1,2001,0)X moveSource(0,2001,0)A moveSource(0,-2001,0)A
            moveSource(0,0,2001)A moveSource(0,0,-2001)A setVelocity(1,0,0)X setVelocity(-1,1000,0)X
            setVelocity(0,1000,0)A setVelocity(0,-1000,0)A setVelocity(0,0,1000)A setVelocity(0,0,-1000)A
            clean(0)A clean(101)A save(2)X save(-1)X restore(2)X restore(-1)X restore(0)S restore(1)S undo()S
            load(1)X load(-1)X load(0)A
            correlation(0,-1,32)X bestLag(0,2,-1)X pointPower(0,6,100)X delayTo(2,0,10000)X sourceAt(1,0,-1)X
            isAlias(6,2,0)X bestVelocity(6,1,5)X blockPower(6,0,33)X setVelocity(1,0,1000)X moveSource(1,0,-2001)X
            movingPower(6,0,-1000)X trackCell(32,-1)X delay(-1,-1)X beam(6,-1)X alias(6,-1,100)X pointBest(6,100)X
            """;

    /** Calls on a new camera with this text, with the numbers at their bounds, which throw nothing. */
    public static final String RIGHT = """
            micAt(0,0) micAt(1,3) isMuted(0) isMuted(1) cellAt(0,0) cellAt(5,1) sourceAt(0,0,0) sourceAt(0,1,31)
            isOn(0) waveAt(0,0) waveAt(0,31) delay(0,0) delay(1,5) delayTo(0,-9999,-9999) delayTo(1,9999,9999)
            spread(0) spread(5) window(0) window(5) sample(0,0) sample(1,31) beam(0,0) beam(0,6) power(0) power(5)
            powerAt(-9999,-9999) powerAt(9999,9999) peakAt(0) isPeak(0) isPeak(5) zonePower(0) zonePower(1)
            zoneBest(0) zoneBest(1) alias(0,0,2) alias(5,5,99) isAlias(0,2,1) isAlias(5,99,100) aliases(2,1)
            aliases(99,100) blockPower(0,0,1) blockPower(5,31,32) blockBest(0,1) blockBest(31,32) path(4) path(32)
            trackScore(4) trackScore(32) trackCell(4,0) trackCell(4,7) trackCell(32,0) movingPower(0,-999,-999)
            movingPower(5,999,999) bestVelocity(0,1,0) bestVelocity(5,99,4) correlation(0,0,0) correlation(1,1,31)
            bestLag(0,0,0) bestLag(1,1,31) level(0) level(1) loudest(0) loudest(1) pointBest(0,2) pointBest(5,99)
            pointPower(0,0,2) pointPower(5,5,99) bestWithout(0) bestWithout(1) bestIfOff(0) mute(0,1) mute(1,0)
            setWeight(0,0) setWeight(1,9) setOn(0,0) setOn(0,1) moveSource(0,-2000,-2000) moveSource(0,2000,2000)
            setVelocity(0,-999,-999) setVelocity(0,999,999) clean(1) clean(100) save(0) save(1)
            best() bestPower() meanPower() peaks() contrast() cleaned() undoable() parseError() errorPosition()
            buffered() mics() columns() rows() sources() samples()
            """;

    private Calls() { }

    public static String nameOf(String call) {
        return call.substring(0, call.indexOf('('));
    }

    public static String answer(AcousticCamera camera, String call) {
        Method method = METHODS.get(nameOf(call));
        String inside = call.substring(call.indexOf('(') + 1, call.indexOf(')'));
        String[] numbers = inside.isEmpty() ? new String[0] : inside.split(",");
        Object[] values = new Object[numbers.length];
        for (int i = 0; i < numbers.length; i++) {
            int value = Integer.parseInt(numbers[i]);
            values[i] = method.getParameterTypes()[i] == boolean.class ? (Object) (value == 1) : (Object) value;
        }
        try {
            return "" + method.invoke(camera, values);
        } catch (InvocationTargetException e) {
            return switch (e.getCause().getClass().getSimpleName()) {
                case "IllegalStateException" -> "S";
                case "IndexOutOfBoundsException" -> "X";
                case "IllegalArgumentException" -> "A";
                default -> e.getCause().toString();
            };
        } catch (IllegalAccessException e) {
            return e.toString();
        }
    }

    public static boolean isThrown(String answer) {
        return !answer.matches("-?[0-9.E]+|true|false");
    }

    /** Calls with the answers that are due, one after the other: "window(0)=7 beam(0,7)=A". */
    public static AcousticCamera run(String about, AcousticCamera camera, String calls) {
        for (String entry : calls.strip().split("\\s+")) {
            int end = entry.indexOf(")=") + 1;
            String call = entry.substring(0, end);
            Check.due(about + ": " + call, answer(camera, call), entry.substring(end + 1));
        }
        return camera;
    }

    public static AcousticCamera run(String about, String text, String calls) {
        return run(about, Check.loaded(text), calls);
    }
}
