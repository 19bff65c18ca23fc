/** Promises 7 to 65 by answers that were worked out by hand. */
public final class PromiseTest {
    private static final String HEAD = "camera distance 100 step 1 samples 32 limit 9999";

    /** Delays: cell 0 to the microphones 0 and 25, cell 1 25 and 0. Samples: 10 at 0 and 16, and 20 at 25. */
    private static final String PULSE =
            HEAD + ";mic 0 0 1;mic 75 0 2;map 0 0 75 2 1;source pulse 0 0 0 0 10 16 0";

    /** One microphone, delays 25, 0, 25; its only sample is 10 at 30, so the powers are 14, 3 and 14. */
    private static final String HILLS =
            HEAD + ";mic 75 0 1;map 0 0 75 3 1;source pulse 75 0 0 0 10 99 69;zone 1 0 2 0;zone 1 0 1 0";

    /** Two microphones, delays as in PULSE; the only sample is 90 at 30 in the first one: powers 0 and 1157. */
    private static final String LATE =
            HEAD + ";mic 0 0 9;mic 75 0 1;map 0 0 75 2 1;source pulse 0 0 0 0 10 99 69";

    public static void main(String[] args) {
        parts();
        sourcesThatMove();
        waves();
        delays();
        windows();
        recordings();
        beamsAndPowers();
        peaksAndZones();
        contrasts();
        aliasMarks();
        blocks();
        tracks();
        movingFocus();
        microphonesCompared();
        maps();
        whatIf();
        mutesAndWeights();
        sourceChanges();
        cleaning();
        undoing();
        slots();
        Check.end();
    }

    private static void parts() {
        AcousticCamera x = Check.loaded(HEAD + ";source square 1 2 3 4 5 6 7;off 0;mic -7 -8 9;shade 4 0 9;mic 5 6 3"
                + ";map -9 8 7 3 2;source pulse 9 8 7 6 5 4 3");
        Check.due("mics()", x.mics(), 2);
        Check.due("micAt(0, 0)", x.micAt(0, 0), -7);
        Check.due("micAt(0, 1)", x.micAt(0, 1), -8);
        Check.due("micAt(0, 2)", x.micAt(0, 2), 9);
        Check.due("micAt(0, 3)", x.micAt(0, 3), 4);
        Check.due("micAt(1, 3)", x.micAt(1, 3), 0);
        Check.due("isMuted(1)", x.isMuted(1), false);
        Check.due("columns()", x.columns(), 3);
        Check.due("rows()", x.rows(), 2);
        Check.due("cellAt(0, 0)", x.cellAt(0, 0), -9);
        Check.due("cellAt(2, 0)", x.cellAt(2, 0), 5);
        Check.due("cellAt(2, 1)", x.cellAt(2, 1), 8);
        Check.due("cellAt(3, 0)", x.cellAt(3, 0), -9);
        Check.due("cellAt(5, 1)", x.cellAt(5, 1), 15);
        Check.due("sources()", x.sources(), 2);
        Check.due("isOn(0)", x.isOn(0), false);
        Check.due("isOn(1)", x.isOn(1), true);
        Check.due("samples()", x.samples(), 32);
        Check.due("sample(0, 0)", x.sample(0, 0), 0);
        AcousticCamera y = Check.loaded(HEAD + ";mic 0 0 1;mic 0 0 1;shade 5;map 0 0 1 1 1");
        Check.due("micAt(0, 3)", y.micAt(0, 3), 5);
        Check.due("micAt(1, 3)", y.micAt(1, 3), 1);
        Check.due("sources()", y.sources(), 0);
    }

    private static void sourcesThatMove() {
        AcousticCamera x = Check.loaded(HEAD + ";mic 0 0 1;map 0 0 1 1 1;source pulse 5 -5 199 -199 1 2 0");
        Check.due("sourceAt(0, 0, 0)", x.sourceAt(0, 0, 0), 5);
        Check.due("sourceAt(0, 0, 1)", x.sourceAt(0, 0, 1), 6);
        Check.due("sourceAt(0, 1, 1)", x.sourceAt(0, 1, 1), -6);
        Check.due("sourceAt(0, 0, 31)", x.sourceAt(0, 0, 31), 66);
        Check.due("sourceAt(0, 1, 31)", x.sourceAt(0, 1, 31), -66);
    }

    private static void waves() {
        AcousticCamera x = Check.loaded(HEAD + ";mic 0 0 1;map 0 0 1 1 1;source square 0 0 0 0 5 5 1"
                + ";source triangle 0 0 0 0 7 5 0;source pulse 0 0 0 0 9 4 1;source noise 0 0 0 0 10 2 1"
                + ";source square 0 0 0 0 8 2 1 from 3;off 4");
        wave(x, 0, 5, -5, -5, -5, 5, 5);
        wave(x, 1, 4, -1, -7, -1, 4, 4);
        wave(x, 2, 0, 0, 0, 9, 0, 0);
        wave(x, 3, -8, 4, -6, 4, -8, 0);
        wave(x, 4, 0, 0, 0, 8, -8, 8);
    }

    private static void wave(AcousticCamera x, int source, int... values) {
        for (int t = 0; t < values.length; t++) {
            Check.due("waveAt(" + source + ", " + t + ")", x.waveAt(source, t), values[t]);
        }
    }

    private static void delays() {
        AcousticCamera x = Check.loaded("camera distance 109 step 10 samples 32 limit 1;mic 0 0 1;map 75 0 1 1 1");
        Check.due("delay(0, 0), both quotients rounded down", x.delay(0, 0), 3);
        Check.due("delayTo(0, 0, -75)", x.delayTo(0, 0, -75), 3);
        Check.due("delayTo(0, 0, 0)", x.delayTo(0, 0, 0), 0);
        AcousticCamera y = Check.loaded("camera distance 100 step 99 samples 32 limit 1;mic 0 0 1;map 75 0 1 1 1");
        Check.due("delayTo(0, 9999, -9999)", y.delayTo(0, 9999, -9999), 141);
        Check.due("delayTo(0, -9999, 9999)", y.delayTo(0, -9999, 9999), 141);
    }

    private static void windows() {
        AcousticCamera x = Check.loaded(PULSE);
        Check.due("spread(0)", x.spread(0), 25);
        Check.due("window(0)", x.window(0), 7);
        x.mute(1, true);
        Check.due("spread(0) of one microphone", x.spread(0), 0);
        Check.due("window(0)", x.window(0), 32);
        Check.due("window(1)", x.window(1), 7);
        x.mute(0, true);
        Check.due("spread(1) of none", x.spread(1), 0);
        Check.due("window(1) of none", x.window(1), 32);
        Check.due("beam(1, 31) of none", x.beam(1, 31), 0);
        AcousticCamera y = Check.loaded(HEAD + ";mic 500 0 1;map -999 0 1 1 1;source pulse 500 0 0 0 1 2 0");
        Check.due("window(0) of a far cell", y.window(0), 0);
        Check.due("power(0) of a far cell", y.power(0), 0L);
        Check.due("blockPower(0, 0, 32) of a far cell", y.blockPower(0, 0, 32), 0L);
        Check.due("movingPower(0, 0, 0) of a far cell", y.movingPower(0, 0, 0), 0L);
        Check.noArgument("beam(0, 0) of a far cell", () -> y.beam(0, 0));
    }

    private static void recordings() {
        samples("source square 0 0 0 0 5 4 0", 5, 5, -5, -5, 5);
        samples("source square 0 0 0 0 5 4 0;source pulse 0 0 0 0 3 2 0", 8, 5, -2, -5, 8);
        samples("source square 0 0 0 0 5 4 0;wall 0 50", 7, 7, -7, -7, 7);
        samples("source square 0 0 0 0 5 4 0;clock 0 3", 0, 0, 0, 5, 5, -5);
        samples("source square 0 0 0 0 5 4 0;filter 2 -1", 10, 5, -15, -5, 15);
        samples("source square 0 0 0 0 5 4 0;filter 0 0 1;clock 0 1", 0, 0, 0, 5, 5, -5);
        samples("source square 0 0 0 0 25 4 0", 20, 20, -20, -20, 20);
        samples("source square 0 0 0 0 25 4 0;filter 1 1", 20, 20, 0, -20, 0);
        samples("source square 0 0 0 0 5 4 0 from 2", 0, 0, -5, -5, 5);
        samples("source square 75 0 0 0 10 2 0;fade 3", zeros(25, 1, -1, 1));
        samples("source square 75 0 0 0 60 2 0;fade 1", zeros(25, 2, -2, 2));
        samples("source pulse 75 0 0 0 10 99 0", zeros(25, 10, 0));
        samples("source pulse 500 0 0 0 10 99 0;wall 250 100;wall 212 50", 10, 0, 0, 0);
        samples("source pulse -500 0 0 0 10 99 0;wall -250 100;wall -250 50", 15, 0, 0, 0);
        samples("source square 500 0 0 0 10 4 0;wall 288 25;fade 300", zeros(25, 2, 2, -2));
        AcousticCamera gained = Check.loaded(PULSE);
        Check.due("sample(0, 16)", gained.sample(0, 16), 10);
        Check.due("sample(1, 25)", gained.sample(1, 25), 20);
        Check.due("sample(1, 0)", gained.sample(1, 0), 0);
        AcousticCamera moves = Check.loaded(HEAD + ";mic 0 0 1;map 0 0 1 1 1;source pulse 75 0 -300 0 10 2 0");
        Check.due("sample(0, 24): then the delay is 0", moves.sample(0, 24), 10);
        Check.due("sample(0, 25): then the delay is 0", moves.sample(0, 25), 0);
        Check.due("sample(0, 7): then the delay is 14", moves.sample(0, 7), 0);
    }

    private static int[] zeros(int count, int... more) {
        int[] values = new int[count + more.length];
        System.arraycopy(more, 0, values, count, more.length);
        return values;
    }

    private static void samples(String lines, int... values) {
        AcousticCamera x = Check.loaded(HEAD.replace("9999", "20") + ";mic 0 0 1;map 0 0 1 1 1;" + lines);
        for (int t = 0; t < values.length; t++) {
            Check.due("sample(0, " + t + ") of " + lines, x.sample(0, t), values[t]);
        }
    }

    private static void beamsAndPowers() {
        AcousticCamera x = Check.loaded(PULSE);
        Check.due("beam(0, 0)", x.beam(0, 0), 30);
        Check.due("beam(0, 6)", x.beam(0, 6), 0);
        Check.due("power(0)", x.power(0), 128L);
        Check.due("power(1)", x.power(1), 0L);
        Check.due("powerAt(0, 0)", x.powerAt(0, 0), 128L);
        Check.due("powerAt(9999, -9999)", x.powerAt(9999, -9999), 0L);
        Check.due("best()", x.best(), 0);
        Check.due("bestPower()", x.bestPower(), 128L);
        Check.due("meanPower()", x.meanPower(), 64L);
        AcousticCamera loud = Check.loaded("camera distance 100 step 99 samples 200 limit 9999;map 0 0 1 12 12"
                + ";source square 0 0 0 0 999 2 0;filter 9 -9;shade 9 9 9 9 9 9 9 9 9 9 9 9" + ";mic 0 0 9".repeat(12));
        Check.due("the greatest sample", loud.sample(11, 0), 9999);
        Check.due("the greatest beam", loud.beam(0, 0), 1079892);
        Check.due("the greatest power", loud.power(143), 1079892L * 1079892L);
        Check.due("meanPower()", loud.meanPower(), 1079892L * 1079892L);
        Check.due("best() of equal ones", loud.best(), 0);
        Check.due("peaks() of equal ones", loud.peaks(), 0);
        Check.due("contrast() of equal ones", loud.contrast(), 1.0f);
    }

    private static void peaksAndZones() {
        AcousticCamera x = Check.loaded(HILLS);
        Check.due("power(1)", x.power(1), 3L);
        Check.due("best(), of several the smallest", x.best(), 0);
        Check.due("meanPower()", x.meanPower(), 10L);
        Check.due("peaks()", x.peaks(), 2);
        Check.due("peakAt(0)", x.peakAt(0), 0);
        Check.due("peakAt(1)", x.peakAt(1), 2);
        Check.noIndex("peakAt(2)", () -> x.peakAt(2));
        Check.noIndex("peakAt(-1)", () -> x.peakAt(-1));
        Check.due("isPeak(0)", x.isPeak(0), true);
        Check.due("isPeak(1)", x.isPeak(1), false);
        Check.due("isPeak(2)", x.isPeak(2), true);
        Check.due("zonePower(0)", x.zonePower(0), 17L);
        Check.due("zoneBest(0)", x.zoneBest(0), 2);
        Check.due("zonePower(1)", x.zonePower(1), 3L);
        Check.due("zoneBest(1)", x.zoneBest(1), 1);
        AcousticCamera one = Check.loaded(HEAD + ";mic 0 0 1;map 0 0 1 1 1");
        Check.due("peaks() of one cell", one.peaks(), 1);
        Check.due("contrast() of one cell", one.contrast(), 0.0f);
        AcousticCamera square = Check.loaded(HILLS.replace("map 0 0 75 3 1", "map 0 0 75 3 3"));
        Check.due("power(4)", square.power(4), 14L);
        Check.due("peaks() of a square: the middle is as high as two corners", square.peaks(), 0);
    }

    private static void contrasts() {
        AcousticCamera x = Check.loaded(HILLS);
        Check.due("contrast(), the same power twice", x.contrast(), 1.0f);
        Check.due("contrast(), the second is 0", Check.loaded(PULSE).contrast(), 0.0f);
        AcousticCamera y = Check.loaded(PULSE);
        y.mute(0, true);
        Check.due("contrast()", y.contrast(), 57.0f / 12.0f);
    }

    private static void aliasMarks() {
        AcousticCamera x = Check.loaded(PULSE);
        Check.due("alias(0, 1, 25)", x.alias(0, 1, 25), 2);
        Check.due("alias(1, 0, 2)", x.alias(1, 0, 2), 2);
        Check.due("alias(0, 1, 3)", x.alias(0, 1, 3), 1);
        Check.due("alias(0, 0, 3)", x.alias(0, 0, 3), 2);
        Check.due("isAlias(1, 25, 100), no peak", x.isAlias(1, 25, 100), false);
        Check.due("isAlias(0, 25, 100), the best cell", x.isAlias(0, 25, 100), false);
        x.mute(0, true);
        Check.due("alias(0, 0, 3)", x.alias(0, 0, 3), 1);
        x.mute(1, true);
        Check.due("alias(0, 0, 3) of none", x.alias(0, 0, 3), 0);
        Check.due("aliases(2, 1) of none", x.aliases(2, 1), 0);
        AcousticCamera hills = Check.loaded(HILLS);
        Check.due("isAlias(2, 2, 100)", hills.isAlias(2, 2, 100), true);
        Check.due("isAlias(0, 2, 100)", hills.isAlias(0, 2, 100), false);
        Check.due("isAlias(1, 2, 1)", hills.isAlias(1, 2, 1), false);
        Check.due("aliases(99, 100)", hills.aliases(99, 100), 1);
        // a second microphone of weight 0, with delays 0, 25 and 80: 0 - 0 and 80 - 0 are the same by 5, not by 3
        AcousticCamera halves = Check.loaded(HILLS.replace(";map", ";mic 0 0 1;shade 1 0;map") + ";filter 1");
        Check.due("alias(0, 0, 3)", halves.alias(0, 0, 3), 2);
        Check.due("alias(2, 0, 3)", halves.alias(2, 0, 3), 1);
        Check.due("alias(2, 0, 5)", halves.alias(2, 0, 5), 2);
        // two microphones with delays 25, 0, 25 and one of weight 0 with 11, 3, 41: windows 175, 197 and 159
        AcousticCamera thirds = Check.loaded("camera distance 100 step 1 samples 200 limit 9999;mic 75 0 1;mic 75 0 1"
                + ";mic 50 0 1;shade 1 0 0;map 0 0 75 3 1;source pulse 75 0 0 0 999 99 69");
        Check.due("best()", thirds.best(), 2);
        Check.due("peaks()", thirds.peaks(), 2);
        Check.due("peakAt(0), the greater power first", thirds.peakAt(0), 2);
        Check.due("peakAt(1)", thirds.peakAt(1), 0);
        Check.due("isAlias(0, 7, 66)", thirds.isAlias(0, 7, 66), true);
        Check.due("isAlias(0, 7, 67)", thirds.isAlias(0, 7, 67), false);
        Check.due("isAlias(0, 5, 100)", thirds.isAlias(0, 5, 100), true);
        Check.due("aliases(7, 66)", thirds.aliases(7, 66), 1);
        Check.due("aliases(7, 67)", thirds.aliases(7, 67), 0);
    }

    private static void blocks() {
        AcousticCamera x = Check.loaded(HILLS);
        Check.due("blockPower(2, 0, 8)", x.blockPower(2, 0, 8), 12L);
        Check.due("blockPower(2, 5, 1)", x.blockPower(2, 5, 1), 100L);
        Check.due("blockPower(2, 6, 32)", x.blockPower(2, 6, 32), 0L);
        Check.due("blockPower(2, 4, 32)", x.blockPower(2, 4, 32), 3L);
        Check.due("blockPower(1, 31, 32)", x.blockPower(1, 31, 32), 0L);
        Check.due("blockBest(24, 8)", x.blockBest(24, 8), 1);
        Check.due("blockBest(5, 1)", x.blockBest(5, 1), 0);
        Check.due("blockBest(6, 8), all 0", x.blockBest(6, 8), 0);
        Check.due("path(8)", x.path(8), 1);
        Check.due("path(7), the last block is at 21", x.path(7), 0);
        Check.due("path(32)", x.path(32), 0);
        Check.due("path(31)", x.path(31), 0);
        Check.due("path(4)", x.path(4), 1);
    }

    private static void tracks() {
        AcousticCamera x = Check.loaded(HILLS);
        Check.due("trackScore(8)", x.trackScore(8), 24L);
        int[] track = {0, 0, 0, 1};
        for (int block = 0; block < 4; block++) {
            Check.due("trackCell(8, " + block + ")", x.trackCell(8, block), track[block]);
        }
        Check.due("trackScore(32)", x.trackScore(32), 3L);
        Check.due("trackCell(32, 0)", x.trackCell(32, 0), 0);
        Check.noIndex("trackCell(32, 1)", () -> x.trackCell(32, 1));
        Check.noIndex("trackCell(8, 4)", () -> x.trackCell(8, 4));
        Check.noIndex("trackCell(8, -1)", () -> x.trackCell(8, -1));
        Check.noArgument("trackCell(3, -1)", () -> x.trackCell(3, -1));
        Check.noArgument("trackCell(33, 99)", () -> x.trackCell(33, 99));
        // the far cells are strong in blocks that follow one another, but no step leads from one to the other
        AcousticCamera far = Check.loaded(HEAD + ";mic 0 0 1;map 0 0 75 3 1;source pulse 0 0 0 0 10 16 0");
        Check.due("blockPower(0, 16, 16)", far.blockPower(0, 16, 16), 6L);
        Check.due("trackScore(16)", far.trackScore(16), 12L);
        Check.due("trackCell(16, 1)", far.trackCell(16, 1), 0);
    }

    private static void movingFocus() {
        AcousticCamera x = Check.loaded(PULSE);
        Check.due("movingPower(0, 0, 0)", x.movingPower(0, 0, 0), 31L);
        // 30 at 0, and at 22 the focus is at (103, 0), with 20 at 22 + 3; 10 at 16 is never met
        Check.due("movingPower(0, 469, 0)", x.movingPower(0, 469, 0), 40L);
        Check.due("movingPower(0, 1, 0): 1 * 31 / 100 is 0", x.movingPower(0, 1, 0), 31L);
        Check.due("movingPower(0, -3, -3): rounded towards 0", x.movingPower(0, -3, -3), 31L);
        Check.due("bestVelocity(0, 5, 0)", x.bestVelocity(0, 5, 0), 0);
        Check.due("bestVelocity(0, 1, 1), of several the smallest", x.bestVelocity(0, 1, 1), 0);
        Check.due("bestVelocity(0, 99, 2)", x.bestVelocity(0, 99, 2), velocity(x, 0, 99, 2));
        Check.due("bestVelocity(1, 99, 4)", x.bestVelocity(1, 99, 4), velocity(x, 1, 99, 4));
    }

    private static int velocity(AcousticCamera x, int cell, int step, int most) {
        int best = -1;
        for (int number = 0; number <= 202 * most; number++) {
            int i = number / 100 - most;
            int k = number % 100 - most;
            if (k <= most && (best < 0 || x.movingPower(cell, step * i, step * k)
                    > x.movingPower(cell, step * (best / 100 - most), step * (best % 100 - most)))) {
                best = number;
            }
        }
        return best;
    }

    private static void microphonesCompared() {
        AcousticCamera x = Check.loaded(PULSE);
        Check.due("correlation(0, 1, 25)", x.correlation(0, 1, 25), 200L);
        Check.due("correlation(0, 1, 9)", x.correlation(0, 1, 9), 200L);
        Check.due("correlation(1, 0, 9)", x.correlation(1, 0, 9), 0L);
        Check.due("correlation(0, 0, 0)", x.correlation(0, 0, 0), 200L);
        Check.due("correlation(0, 0, 16)", x.correlation(0, 0, 16), 100L);
        Check.due("correlation(0, 0, 31)", x.correlation(0, 0, 31), 0L);
        Check.due("bestLag(0, 1, 31), of several the smallest", x.bestLag(0, 1, 31), 9);
        Check.due("bestLag(0, 1, 8)", x.bestLag(0, 1, 8), 0);
        Check.due("level(0)", x.level(0), 6L);
        Check.due("level(1)", x.level(1), 12L);
        x.mute(1, true);
        Check.due("loudest(0), muted or not", x.loudest(0), 1);
        Check.due("loudest(1)", x.loudest(1), 0);
        AcousticCamera equal = Check.loaded(HEAD + ";mic 0 0 1;mic 0 0 1;mic 0 0 2;map 0 0 1 1 1"
                + ";source pulse 0 0 0 0 10 16 0");
        Check.due("loudest(0)", equal.loudest(0), 2);
        Check.due("loudest(1)", equal.loudest(1), 0);
        Check.due("loudest(2)", equal.loudest(2), 1);
        AcousticCamera against = Check.loaded(HEAD + ";mic 0 0 1;mic 0 0 1;map 0 0 1 1 1"
                + ";source square 0 0 0 0 10 2 0");
        Check.due("correlation(0, 1, 1)", against.correlation(0, 1, 1), -3100L);
        Check.due("bestLag(0, 1, 1)", against.bestLag(0, 1, 1), 0);
    }

    private static void maps() {
        AcousticCamera x = Check.loaded(HILLS);
        Check.noIndex("mapByte(0) before the first map", () -> x.mapByte(0));
        map(x, "919");
        x.load(Check.put(x, HILLS.replace("map 0 0 75 3 1", "map 0 -75 75 3 3")));
        Check.due("mapByte(2), the text of the last writeMap", x.mapByte(2), (int) '9');
        Check.noIndex("mapByte(3)", () -> x.mapByte(3));
        x.setOn(0, false);
        map(x, "000;000;000");
        x.undo();
        Check.due("mapByte(0), what writeMap wrote is no state", x.mapByte(0), (int) '0');
        x.load(Check.put(x, HEAD + ";mic 0 0 1;map 0 0 1 1 3;source pulse 0 0 0 0 99 4 0"));
        map(x, "9;9;9");
        x.load(Check.put(x, HEAD + ";mic 0 0 1;map 0 0 1 12 12"));
        map(x, "000000000000;".repeat(11) + "000000000000");
        Check.noIndex("mapByte(-1)", () -> x.mapByte(-1));
    }

    private static void map(AcousticCamera x, String text) {
        Check.due("writeMap()", x.writeMap(), text.length());
        for (int i = 0; i < text.length(); i++) {
            Check.due("mapByte(" + i + ") of " + text, x.mapByte(i), (int) text.charAt(i));
        }
        Check.noIndex("mapByte behind the text", () -> x.mapByte(text.length()));
    }

    private static void whatIf() {
        AcousticCamera x = Check.loaded(PULSE);
        Check.due("pointBest(1, 16)", x.pointBest(1, 16), 1);
        Check.due("pointBest(0, 16)", x.pointBest(0, 16), 0);
        Check.due("pointPower(1, 1, 16)", x.pointPower(1, 1, 16), 90000L);
        Check.due("pointPower(1, 0, 16)", x.pointPower(1, 0, 16), 40000L);
        x.setWeight(1, 0);
        Check.due("pointPower(1, 1, 16), weights as they are", x.pointPower(1, 1, 16), 10000L);
        Check.due("sample(0, 0) stays", x.sample(0, 0), 10);
        AcousticCamera limited = Check.loaded(PULSE.replace("9999", "7") + ";clock 1 1;wall 0 1;fade 9;filter 1");
        Check.due("pointPower(0, 0, 16), the lines apply", limited.pointPower(0, 0, 16), (49 + 6 * 196) / 7L);
        AcousticCamera late = Check.loaded(LATE);
        Check.due("best()", late.best(), 1);
        Check.due("bestWithout(0)", late.bestWithout(0), 0);
        Check.due("bestWithout(1)", late.bestWithout(1), 1);
        Check.due("bestIfOff(0)", late.bestIfOff(0), 0);
        Check.due("best() stays", late.best(), 1);
        Check.due("isMuted(0)", late.isMuted(0), false);
        Check.due("isOn(0)", late.isOn(0), true);
        Check.due("undoable()", late.undoable(), 0);
        AcousticCamera two = Check.loaded(LATE + ";source pulse 0 0 0 0 1 99 69;off 1");
        two.clean(100);
        Check.due("best() of what cleaning left", two.best(), 0);
        Check.due("bestIfOff(1) is of new recordings", two.bestIfOff(1), 1);
        Check.due("cleaned() stays", two.cleaned(), 1);
    }

    private static void mutesAndWeights() {
        AcousticCamera x = Check.loaded(PULSE);
        Check.due("mute(0, true)", x.mute(0, true), false);
        Check.due("mute(0, true)", x.mute(0, true), true);
        Check.due("isMuted(0)", x.isMuted(0), true);
        Check.due("undoable()", x.undoable(), 2);
        Check.due("beam(0, 0)", x.beam(0, 0), 20);
        Check.due("power(0)", x.power(0), 57L);
        Check.due("mute(0, false)", x.mute(0, false), true);
        Check.due("isMuted(0)", x.isMuted(0), false);
        Check.due("power(0)", x.power(0), 128L);
        Check.due("setWeight(1, 9)", x.setWeight(1, 9), 1);
        Check.due("setWeight(1, 0)", x.setWeight(1, 0), 9);
        Check.due("micAt(1, 3)", x.micAt(1, 3), 0);
        Check.due("power(0)", x.power(0), 14L);
        x.setWeight(1, 3);
        Check.due("power(0)", x.power(0), 700L);
    }

    private static void sourceChanges() {
        AcousticCamera x = Check.loaded(PULSE);
        x.clean(100);
        Check.due("setOn(0, true), recordings anew", x.setOn(0, true), true);
        Check.due("cleaned()", x.cleaned(), 0);
        Check.due("sample(0, 0)", x.sample(0, 0), 10);
        Check.due("setOn(0, false)", x.setOn(0, false), true);
        Check.due("isOn(0)", x.isOn(0), false);
        Check.due("sample(0, 0)", x.sample(0, 0), 0);
        Check.due("setOn(0, true)", x.setOn(0, true), false);
        Check.due("moveSource(0, 75, 0)", x.moveSource(0, 75, 0), 1);
        Check.due("sample(1, 0)", x.sample(1, 0), 20);
        Check.due("sample(0, 25)", x.sample(0, 25), 10);
        Check.due("moveSource(0, 0, 2000)", x.moveSource(0, 0, 2000), 0);
        Check.due("sourceAt(0, 1, 0)", x.sourceAt(0, 1, 0), 2000);
        Check.due("setVelocity(0, 999, -999)", x.setVelocity(0, 999, -999), 0);
        Check.due("sourceAt(0, 0, 31)", x.sourceAt(0, 0, 31), 309);
        Check.due("sourceAt(0, 1, 31)", x.sourceAt(0, 1, 31), 2000 - 309);
        Check.due("moveSource(0, 1, 2)", x.moveSource(0, 1, 2), x.best());
        Check.due("sourceAt(0, 0, 31), the velocity stays", x.sourceAt(0, 0, 31), 310);
        Check.due("undoable()", x.undoable(), 6);
    }

    private static void cleaning() {
        AcousticCamera x = Check.loaded(PULSE);
        Check.due("cleaned()", x.cleaned(), 0);
        Check.due("clean(50)", x.clean(50), 0);
        Check.due("sample(0, 0)", x.sample(0, 0), 3);
        Check.due("sample(1, 25)", x.sample(1, 25), 13);
        Check.due("sample(0, 16), beyond the window", x.sample(0, 16), 10);
        Check.due("clean(1)", x.clean(1), 0);
        Check.due("sample(1, 25)", x.sample(1, 25), 13);
        Check.due("cleaned()", x.cleaned(), 2);
        x.mute(0, true);
        x.setWeight(1, 2);
        Check.due("cleaned(), recordings as they are", x.cleaned(), 2);
        x.clean(100);
        Check.due("sample(1, 25)", x.sample(1, 25), 0);
        Check.due("sample(0, 0), muted", x.sample(0, 0), 3);
        Check.due("undo()", x.undo(), 4);
        Check.due("cleaned()", x.cleaned(), 2);
        Check.due("sample(1, 25)", x.sample(1, 25), 13);
        x.setWeight(1, 0);
        Check.dueThrow("clean(0) without weight", IllegalStateException.class, () -> x.clean(0));
        x.mute(1, true);
        Check.dueThrow("clean(9) without microphones", IllegalStateException.class, () -> x.clean(9));
        AcousticCamera below = Check.loaded(PULSE + ";filter -1");
        below.clean(50);
        Check.due("sample(0, 0), rounded towards 0", below.sample(0, 0), -3);
        Check.due("sample(1, 25), rounded towards 0", below.sample(1, 25), -13);
        AcousticCamera silent = Check.loaded(HEAD + ";mic 0 0 1;map 0 0 1 2 2");
        Check.due("clean(100) of silence", silent.clean(100), 0);
        Check.due("cleaned()", silent.cleaned(), 1);
        Check.due("undoable()", silent.undoable(), 1);
    }

    private static void undoing() {
        AcousticCamera x = Check.loaded(PULSE);
        for (int weight = 2; weight <= 9; weight++) {
            x.setWeight(0, weight);
            Check.due("undoable()", x.undoable(), Math.min(weight - 1, 6));
        }
        Check.noArgument("setWeight(0, 10)", () -> x.setWeight(0, 10));
        Check.noArgument("clean(101)", () -> x.clean(101));
        Check.noIndex("mute(2, true)", () -> x.mute(2, true));
        Check.due("undoable()", x.undoable(), 6);
        for (int left = 5; left >= 0; left--) {
            Check.due("undo()", x.undo(), left);
            Check.due("micAt(0, 3)", x.micAt(0, 3), 3 + left);
        }
        Check.dueThrow("undo()", IllegalStateException.class, x::undo);
        Check.due("micAt(0, 3)", x.micAt(0, 3), 3);
        x.moveSource(0, 75, 0);
        x.setVelocity(0, 7, 7);
        x.setOn(0, false);
        x.mute(1, true);
        x.undo();
        Check.due("isMuted(1)", x.isMuted(1), false);
        x.undo();
        Check.due("isOn(0)", x.isOn(0), true);
        Check.due("sample(1, 0)", x.sample(1, 0), 20);
        x.undo();
        Check.due("sourceAt(0, 0, 31)", x.sourceAt(0, 0, 31), 75);
        x.setVelocity(0, 100, 0);
        Check.due("a change after undo", x.sourceAt(0, 0, 31), 106);
        Check.due("undo()", x.undo(), 1);
        Check.due("undo()", x.undo(), 0);
        Check.due("sourceAt(0, 0, 31)", x.sourceAt(0, 0, 31), 0);
        Check.due("best()", x.best(), 0);
        Check.due("sample(0, 0)", x.sample(0, 0), 10);
    }

    private static void slots() {
        AcousticCamera x = Check.loaded(PULSE);
        Check.due("save(0)", x.save(0), 0);
        Check.due("undoable()", x.undoable(), 0);
        x.moveSource(0, 75, 0);
        Check.due("save(1)", x.save(1), 1);
        Check.due("undoable(), saving is no change", x.undoable(), 1);
        x.clean(100);
        x.mute(0, true);
        Check.due("restore(0)", x.restore(0), 0);
        Check.due("undoable()", x.undoable(), 0);
        Check.dueThrow("undo()", IllegalStateException.class, x::undo);
        Check.due("sourceAt(0, 0, 0)", x.sourceAt(0, 0, 0), 0);
        Check.due("isMuted(0)", x.isMuted(0), false);
        Check.due("cleaned()", x.cleaned(), 0);
        Check.due("sample(0, 0)", x.sample(0, 0), 10);
        x.setOn(0, false);
        Check.due("restore(1)", x.restore(1), 1);
        Check.due("sample(1, 0)", x.sample(1, 0), 20);
        Check.due("restore(1), it stays saved", x.restore(1), 1);
        x.mute(1, true);
        x.save(0);
        x.mute(1, false);
        x.restore(0);
        Check.due("isMuted(1), in place of what was saved", x.isMuted(1), true);
        Check.noIndex("save(-1)", () -> x.save(-1));
        Check.noIndex("save(2)", () -> x.save(2));
        AcousticCamera y = Check.loaded(PULSE);
        Check.noIndex("restore(2)", () -> y.restore(2));
        Check.noIndex("restore(-1)", () -> y.restore(-1));
        y.save(1);
        Check.dueThrow("restore(0)", IllegalStateException.class, () -> y.restore(0));
    }
}
