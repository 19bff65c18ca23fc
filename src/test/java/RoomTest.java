import java.lang.management.ManagementFactory;

/**
 * All calls of a run live in one room: the dearest calls must make no objects, and the object itself a few only. Only
 * the samples that cleanings let grow take more room, once for each part that they get.
 */
public final class RoomTest {
    private static final String TEXT = "camera distance 100 step 9 samples 200 limit 9999;shade 1 2 3;fade 300"
            + ";filter 1 -2 3 -4 5;map -99 -99 20 12 12" + ";mic 50 -20 9".repeat(6) + ";mic -70 30 8".repeat(6)
            + ";clock 3 9;wall 200 50;wall -200 60;source triangle 5 -7 99 -98 999 9 3".replace("98", "9")
            + ";source noise 50 -7 99 -98 99 9 3".repeat(5) + ";zone 0 0 9 9";

    private static final String GROWING = "camera distance 5000 step 99 samples 200 limit 9999;mic 0 0 1;mic 1 0 2"
            + ";mic 0 1 4;shade 0;map 0 0 1 12 12;source square 0 0 0 0 999 10 0";

    public static void main(String[] args) {
        useAll(new AcousticCamera());
        long before = bytes();
        AcousticCamera x = new AcousticCamera();
        long made = bytes() - before;
        Check.due("the object is small (" + made + " bytes)", made < 2_000_000L, true);
        before = bytes();
        int calls = 0;
        while (calls < 450) {
            calls += useAll(x);
        }
        long used = bytes() - before;
        Check.due(calls + " calls make next to nothing (" + used + " bytes)", used < 200_000L, true);
        AcousticCamera grown = Check.loaded(GROWING);
        before = bytes();
        for (int i = 0; i < 40; i++) {
            grow(grown);
        }
        useGrown(grown);
        long grownBytes = bytes() - before;
        Check.due("grown samples take little room (" + grownBytes + " bytes)", grownBytes < 2_000_000L, true);
        before = bytes();
        useGrown(grown);
        long again = bytes() - before;
        Check.due("they take it once (" + again + " bytes)", again < 1000L, true);
        Check.end();
    }

    /** As in GreatTest. */
    private static void grow(AcousticCamera x) {
        x.mute(2, true);
        x.clean(100);
        x.mute(2, false);
        x.mute(1, true);
        x.clean(100);
        x.mute(1, false);
        x.setWeight(0, 9);
        x.clean(100);
        x.setWeight(0, 0);
    }

    private static void useGrown(AcousticCamera x) {
        x.save(0);
        x.save(1);
        x.loudest(0);
        x.bestLag(0, 1, 199);
        x.contrast();
        x.trackScore(4);
        x.bestVelocity(3, 9, 4);
        x.writeMap();
        x.bestWithout(0);
        x.restore(0);
    }

    private static int useAll(AcousticCamera x) {
        int n = Check.put(x, TEXT);
        x.load(n);
        x.mute(0, true);
        x.setWeight(1, 3);
        x.setOn(0, false);
        x.moveSource(0, 4, 4);
        x.setVelocity(0, 5, 5);
        x.clean(50);
        x.undo();
        x.save(0);
        x.restore(0);
        x.best();
        x.powerAt(3, 3);
        x.peakAt(0);
        x.zoneBest(0);
        x.zonePower(0);
        x.contrast();
        x.aliases(9, 50);
        x.blockBest(3, 9);
        x.path(4);
        x.trackScore(4);
        x.trackCell(4, 49);
        x.movingPower(3, 5, 5);
        x.bestLag(0, 1, 199);
        x.loudest(3);
        x.writeMap();
        x.mapByte(3);
        x.pointBest(3, 9);
        x.pointPower(3, 4, 9);
        x.bestWithout(3);
        x.bestIfOff(3);
        return 30 + n / 20;
    }

    private static long bytes() {
        var threads = (com.sun.management.ThreadMXBean) ManagementFactory.getThreadMXBean();
        return threads.getThreadAllocatedBytes(Thread.currentThread().getId());
    }
}
