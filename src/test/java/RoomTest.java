import java.lang.management.ManagementFactory;

/** All calls of a run live in one room: the dearest calls must make no objects, and the object itself a few only. */
public final class RoomTest {
    private static final String TEXT = "camera distance 100 step 9 samples 200 limit 9999;shade 1 2 3;fade 300"
            + ";filter 1 -2 3 -4 5;map -99 -99 20 12 12" + ";mic 50 -20 9".repeat(6) + ";mic -70 30 8".repeat(6)
            + ";clock 3 9;wall 200 50;wall -200 60;source triangle 5 -7 99 -98 999 9 3".replace("98", "9")
            + ";source noise 50 -7 99 -98 99 9 3".repeat(5) + ";zone 0 0 9 9";

    public static void main(String[] args) {
        useAll(new AcousticCamera());
        long before = bytes();
        AcousticCamera x = new AcousticCamera();
        long made = bytes() - before;
        Check.due("the object is small (" + made + " bytes)", made < 2_000_000L, true);
        before = bytes();
        int calls = 0;
        while (calls < 450) {
            calls += useAll(x);
        }
        long used = bytes() - before;
        Check.due(calls + " calls make next to nothing (" + used + " bytes)", used < 200_000L, true);
        Check.end();
    }

    private static int useAll(AcousticCamera x) {
        int n = Check.put(x, TEXT);
        x.load(n);
        x.mute(0, true);
        x.setWeight(1, 3);
        x.setOn(0, false);
        x.moveSource(0, 4, 4);
        x.setVelocity(0, 5, 5);
        x.clean(50);
        x.undo();
        x.save(0);
        x.restore(0);
        x.best();
        x.powerAt(3, 3);
        x.peakAt(0);
        x.zoneBest(0);
        x.zonePower(0);
        x.contrast();
        x.aliases(9, 50);
        x.blockBest(3, 9);
        x.path(4);
        x.trackScore(4);
        x.trackCell(4, 49);
        x.movingPower(3, 5, 5);
        x.bestLag(0, 1, 199);
        x.loudest(3);
        x.writeMap();
        x.mapByte(3);
        x.pointBest(3, 9);
        x.pointPower(3, 4, 9);
        x.bestWithout(3);
        x.bestIfOff(3);
        return 30 + n / 20;
    }

    private static long bytes() {
        var threads = (com.sun.management.ThreadMXBean) ManagementFactory.getThreadMXBean();
        return threads.getThreadAllocatedBytes(Thread.currentThread().getId());
    }
}
