import java.math.BigInteger;

/**
 * Cleanings can let the samples grow: here by turns that are worked out beside the class. All delays are 0, and the
 * source is square, so the samples of a microphone are its loudness or the negative of it, and every power is a square.
 */
public final class GreatTest {
    private static final int SAMPLES = 200;
    private static final int PERIOD = 10;
    /** After so many turns the answers still fit their types. */
    private static final int MOST_TOLD = 23;
    /** As many as an object is good for, with the questions that are asked then. */
    private static final int MOST_TURNS = 53;
    private static final int LONG_BITS = 63;
    private static final String TEXT = "camera distance 5000 step 99 samples 200 limit 9999;mic 0 0 1;mic 1 0 2"
            + ";mic 0 1 4;shade 0;map 0 0 1 3 2;zone 1 1 1 1;source square 0 0 0 0 999 10 0";

    /** No camera is asked if the text is null. */
    private final AcousticCamera camera;
    private BigInteger first;
    private BigInteger second;
    private BigInteger third;

    private GreatTest(String text, int loudness) {
        camera = text == null ? null : Check.loaded(text);
        first = BigInteger.valueOf(loudness);
        second = BigInteger.valueOf(2L * loudness);
        third = BigInteger.valueOf(4L * loudness);
    }

    public static void main(String[] args) {
        for (int turns = 1; turns <= MOST_TURNS; turns++) {
            // one object each, as an object is good for 512 calls only
            GreatTest test = new GreatTest(TEXT, 999);
            for (int i = 0; i < turns; i++) {
                test.turn();
            }
            String when = " after turn " + turns;
            if (turns <= MOST_TOLD) {
                test.told(when);
            }
            test.compared(when);
            Check.due("the samples grow" + when, test.second.bitLength() > 9 + turns * 7 / 8, true);
        }
        contrasts();
        Check.end();
    }

    /**
     * The first cell hears a loud source at 0 and a soft one at 25, the second cell, with delays of 20, the soft one
     * alone; both grow alike, so that the powers stay far apart.
     */
    private static void contrasts() {
        GreatTest loud = new GreatTest("camera distance 100 step 1 samples 32 limit 9999;map 0 0 67 2 1;shade 0"
                + ";mic 0 0 1;mic 0 0 2;mic 0 0 4;source pulse 0 0 0 0 999 99 0;source pulse 0 0 0 0 1 99 74", 999);
        GreatTest soft = new GreatTest(null, 1);
        for (int turns = 1; turns <= MOST_TOLD; turns++) {
            loud.turn();
            soft.turn();
            BigInteger two = soft.second.add(soft.third).pow(2);
            BigInteger one = loud.second.add(loud.third).pow(2).add(two).divide(BigInteger.valueOf(32));
            two = two.divide(BigInteger.valueOf(12));
            String when = " after turn " + turns + " of two";
            Check.due("power(0)" + when, loud.camera.power(0), one.longValueExact());
            Check.due("power(1)" + when, loud.camera.power(1), two.longValueExact());
            Check.due("contrast()" + when, loud.camera.contrast(), two.signum() == 0 ? 0.0f
                    : (float) one.longValueExact() / (float) two.longValueExact());
        }
        Check.due("the powers are far apart", loud.camera.contrast() > 100_000.0f, true);
        Check.due("the greater one takes more than two parts", loud.camera.bestPower() > 1L << 56, true);
    }

    /** The weights are 0, 1 and 1: the beam of two microphones is that of the one whose weight is 1. */
    private void turn() {
        change(2);
        first = first.subtract(second);
        second = BigInteger.ZERO;
        change(1);
        first = first.subtract(third);
        third = BigInteger.ZERO;
        change(0);
        BigInteger part = first.multiply(BigInteger.valueOf(9 * 100)).divide(BigInteger.valueOf(1100));
        first = first.subtract(part);
        second = second.subtract(part);
        third = third.subtract(part);
    }

    /** A cleaning without a microphone, or, for the first one, with a weight of 9 for it. */
    private void change(int mic) {
        if (camera == null) {
            return;
        }
        if (mic == 0) {
            camera.setWeight(0, 9);
        } else {
            camera.mute(mic, true);
        }
        Check.due("clean(100)", camera.clean(100), 0);
        if (mic == 0) {
            camera.setWeight(0, 0);
        } else {
            camera.mute(mic, false);
        }
    }

    private void told(String when) {
        Check.due("sample(0, 0)" + when, camera.sample(0, 0), first.intValue());
        Check.due("sample(1, 5)" + when, camera.sample(1, 5), second.negate().intValue());
        Check.due("level(0)" + when, camera.level(0), first.pow(2).longValueExact());
        Check.due("level(2)" + when, camera.level(2), third.pow(2).longValueExact());
        BigInteger product = first.multiply(second);
        Check.due("correlation(0, 1, 199)" + when, camera.correlation(0, 1, SAMPLES - 1), -product.longValueExact());
        BigInteger sum = product.multiply(BigInteger.valueOf(SAMPLES - PERIOD));
        if (sum.bitLength() <= LONG_BITS) {
            Check.due("correlation(1, 0, 10)" + when, camera.correlation(1, 0, PERIOD), sum.longValueExact());
        }
        for (int weight = 0; weight <= 9; weight += 3) {
            camera.setWeight(0, weight);
            BigInteger beam = first.multiply(BigInteger.valueOf(weight)).add(second).add(third);
            if (beam.bitLength() <= 31) {
                powers(beam, " with weight " + weight + when);
            }
        }
        camera.setWeight(0, 0);
    }

    private void powers(BigInteger beam, String when) {
        long power = beam.pow(2).longValueExact();
        Check.due("beam(0, 0)" + when, camera.beam(0, 0), beam.intValue());
        Check.due("beam(5, 9)" + when, camera.beam(5, 9), beam.negate().intValue());
        Check.due("power(5)" + when, camera.power(5), power);
        Check.due("powerAt(1, 1)" + when, camera.powerAt(1, 1), power);
        Check.due("bestPower()" + when, camera.bestPower(), power);
        Check.due("meanPower()" + when, camera.meanPower(), power);
        Check.due("zonePower(0)" + when, camera.zonePower(0), power);
        Check.due("zoneBest(0)" + when, camera.zoneBest(0), 4);
        Check.due("best()" + when, camera.best(), 0);
        Check.due("peaks()" + when, camera.peaks(), 0);
        Check.due("contrast()" + when, camera.contrast(), power == 0 ? 0.0f : 1.0f);
        Check.due("blockPower(1, 3, 97)" + when, camera.blockPower(1, 3, 97), power);
        Check.due("blockBest(3, 97)" + when, camera.blockBest(3, 97), 0);
        Check.due("path(4)" + when, camera.path(4), 0);
        Check.due("trackScore(200)" + when, camera.trackScore(200), power);
        Check.due("trackCell(4, 49)" + when, camera.trackCell(4, 49), 0);
        Check.due("movingPower(2, 0, 0)" + when, camera.movingPower(2, 0, 0), power);
        Check.due("bestVelocity(2, 1, 1)" + when, camera.bestVelocity(2, 1, 1), 0);
        Check.due("writeMap()" + when, camera.writeMap(), 7);
        Check.due("mapByte(0)" + when, camera.mapByte(0), power == 0 ? (int) '0' : (int) '9');
        Check.due("mapByte(6)" + when, camera.mapByte(6), power == 0 ? (int) '0' : (int) '9');
        if (power < Long.MAX_VALUE / 50) {
            Check.due("trackScore(4)" + when, camera.trackScore(4), 50 * power);
        }
    }

    /** What fits its type however far the samples have grown. */
    private void compared(String when) {
        Check.due("loudest(0)" + when, camera.loudest(0), first.abs().compareTo(second.abs()) >= 0 ? 0 : 1);
        Check.due("bestLag(0, 0, 199)" + when, camera.bestLag(0, 0, SAMPLES - 1), 0);
        // a correlation of the opposite sign is greatest half a period later
        boolean opposed = first.signum() * second.signum() < 0;
        Check.due("bestLag(0, 1, 199)" + when, camera.bestLag(0, 1, SAMPLES - 1), opposed ? PERIOD / 2 : 0);
        Check.due("blockBest(3, 97)" + when, camera.blockBest(3, 97), 0);
        Check.due("trackCell(4, 49)" + when, camera.trackCell(4, 49), 0);
        Check.due("bestVelocity(2, 1, 1)" + when, camera.bestVelocity(2, 1, 1), 0);
        Check.due("contrast()" + when, camera.contrast(), 1.0f);
        camera.writeMap();
        Check.due("mapByte(6)" + when, camera.mapByte(6), (int) '9');
    }
}
