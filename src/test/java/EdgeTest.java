/**
 * The sentences of sections 1 to 5 and of promises 7 to 54 that name a boundary case, each with its runs. With the
 * camera at a distance of 100 and steps of 1, a microphone has these delays from points so far away in the plane: 1
 * from 15 to 20, 25 from 75, 29 from 83, 31 from 85 and 86, 32 from 87, 33 from 88.
 */
public final class EdgeTest {
    private static final String HEAD = "camera distance 100 step 1 samples 32 limit 9999";

    /** A source at the first microphone that is 10 at 31 alone. */
    private static final String LAST = ";source pulse 0 0 0 0 10 99 68";

    /** One microphone at (-15, 10), its only sample 100 at 31, and 3 by 2 cells with 10000 / their windows. */
    private static final String GRID = HEAD + ";mic -15 10 1;map -40 0 40 3 2;source pulse -15 10 0 0 100 99 68"
            + ";zone 0 0 2 1;zone 2 0 2 0;zone 0 0 0 1;zone 0 1 1 1";

    /** Delays 25, 0, 25 of two microphones and 11, 3, 41 of a third one, which has no weight as the second one. */
    private static final String THIRDS = "camera distance 100 step 1 samples 200 limit 9999;mic 75 0 1;mic 75 0 1"
            + ";mic 50 0 1;shade 1 0 0;map 0 0 75 3 1;source pulse 75 0 0 0 999 99 69";

    public static void main(String[] args) {
        parts();
        places();
        starts();
        waves();
        delays();
        arrivals();
        images();
        clocksAndFilters();
        limits();
        windows();
        noneActive();
        onlyCell();
        powers();
        peaks();
        contrasts();
        aliasMarks();
        blocks();
        blocksOfTheEnd();
        tracks();
        movingFocus();
        lags();
        levels();
        maps();
        points();
        without();
        cleaning();
        greatestCamera();
        lastCall();
        Check.end();
    }

    private static void parts() {
        Calls.run("section 1, the weights by a shade line that is shorter", HEAD
                + ";shade 0 9;mic 0 0 1;mic 0 0 1;mic 0 0 1;map 0 0 1 1 1", "micAt(0,3)=0 micAt(1,3)=9 micAt(2,3)=1");
        Calls.run("section 1, the weights by a shade line that is longer", HEAD
                + ";mic 0 0 1;mic 0 0 1;map 0 0 1 1 1;shade 2 3 4 5 6 7 8 9 0 1 2 3",
                "micAt(0,3)=2 micAt(1,3)=3 micAt(2,3)=X mics()=2");
        Calls.run("section 1, the weights without a shade line", HEAD + ";mic 0 0 1;map 0 0 1 1 1", "micAt(0,3)=1");
        Calls.run("section 1, the cells of the greatest map", HEAD + ";mic 500 -500 9;map -999 999 99 12 12",
                "columns()=12 rows()=12 cellAt(0,0)=-999 cellAt(0,1)=999 cellAt(11,0)=90 cellAt(11,1)=999"
                + " cellAt(12,0)=-999 cellAt(12,1)=1098 cellAt(143,0)=90 cellAt(143,1)=2088 cellAt(144,0)=X"
                + " micAt(0,0)=500 micAt(0,1)=-500 micAt(0,2)=9 micAt(0,-1)=A sources()=0 isOn(0)=X zoneBest(0)=X"
                + " zonePower(0)=X sourceAt(0,0,0)=X waveAt(0,0)=X bestIfOff(0)=X setOn(0,1)=X moveSource(0,0,0)=X"
                + " setVelocity(0,0,0)=X");
        Calls.run("section 1, all sources are on but those of off lines", HEAD + ";mic 0 0 1;map 0 0 1 1 1"
                + ";source pulse 0 0 0 0 1 99 0".repeat(6) + ";off 5;off 0", "isOn(0)=false isOn(1)=true isOn(2)=true"
                + " isOn(3)=true isOn(4)=true isOn(5)=false isOn(6)=X sources()=6 sample(0,0)=4");
        Calls.run("section 1, numbered in the order of the text", HEAD + ";wall 0 100"
                + ";map 0 0 1 2 2;zone 1 1 1 1;source pulse 3 0 0 0 1 2 0;mic 1 0 1;zone 0 1 0 1;mic 2 0 1;source"
                + " pulse 4 0 0 0 1 2 0;zone 0 0 0 0",
                "micAt(0,0)=1 micAt(1,0)=2 sourceAt(0,0,0)=3 sourceAt(1,0,0)=4 zoneBest(0)=3 zoneBest(1)=2"
                + " zoneBest(2)=0 zoneBest(3)=X");
    }

    private static void places() {
        Calls.run("section 2, the quotients are rounded towards 0", HEAD + ";mic 0 0 1;map 0 0 1 1 1"
                + ";source pulse 10 -10 99 -99 1 2 0;source pulse 10 -10 -150 150 1 2 0;source pulse 0 0 100 -100 1 2"
                + " 0;source pulse 2000 -2000 999 -999 1 2 0",
                "sourceAt(0,0,0)=10 sourceAt(0,0,1)=10 sourceAt(0,1,1)=-10 sourceAt(0,0,2)=11 sourceAt(0,1,2)=-11"
                + " sourceAt(1,0,1)=9 sourceAt(1,1,1)=-9 sourceAt(2,0,1)=1 sourceAt(2,1,1)=-1 sourceAt(2,0,31)=31"
                + " sourceAt(3,0,31)=2309 sourceAt(3,1,31)=-2309 sourceAt(3,0,32)=A sourceAt(3,2,0)=A");
    }

    private static void starts() {
        Calls.run("section 2, the wave is 0 before FROM", HEAD + ";mic 0 0 1;map 0 0 1 1 1"
                + ";source square 0 0 0 0 5 2 0 from 31;source square 0 0 0 0 5 2 0 from 32;source square 0 0 0 0 5 2"
                + " 0 from 199;source square 0 0 0 0 5 2 0 from 0",
                "waveAt(0,0)=0 waveAt(0,30)=0 waveAt(0,31)=-5 waveAt(1,31)=0 waveAt(2,31)=0 waveAt(3,0)=5"
                + " waveAt(3,31)=-5");
        Calls.run("section 2, FROM in what arrives later", HEAD + ";mic 75 0 1;map 0 0 1 1 1"
                + ";source square 0 0 0 0 5 2 0 from 3",
                "sample(0,27)=0 sample(0,28)=-5 sample(0,29)=5 sample(0,31)=5 sample(0,32)=A");
        Calls.run("section 2, FROM at the last sample", "camera distance 100 step 1 samples 200 limit 9999;mic 0 0 1"
                + ";map 0 0 1 1 1;source noise 0 0 0 0 999 2 99 from 199",
                "waveAt(0,198)=0 waveAt(0,199)=-727 sample(0,199)=-727");
    }

    private static void waves() {
        Calls.run("section 2, square, PERIOD / 2 rounded down", "camera distance 100 step 1 samples 200 limit 9999"
                + ";mic 0 0 1;map 0 0 1 1 1;source square 0 0 0 0 7 3 0;source square 0 0 0 0 7 2 99;source square 0 0"
                + " 0 0 7 99 0;source square 0 0 0 0 7 99 99",
                "waveAt(0,0)=7 waveAt(0,1)=-7 waveAt(0,2)=-7 waveAt(0,3)=7 waveAt(1,0)=-7 waveAt(1,1)=7 waveAt(2,48)=7"
                + " waveAt(2,49)=-7 waveAt(2,98)=-7 waveAt(2,99)=7 waveAt(3,0)=7 waveAt(3,199)=7");
        Calls.run("section 2, triangle, rounded towards 0", "camera distance 100 step 1 samples 200 limit 9999"
                + ";mic 0 0 1;map 0 0 1 1 1;source triangle 0 0 0 0 10 7 0;source triangle 0 0 0 0 9 2 0;source"
                + " triangle 0 0 0 0 1 3 0;source triangle 0 0 0 0 999 99 0",
                "waveAt(0,0)=7 waveAt(0,1)=1 waveAt(0,2)=-4 waveAt(0,3)=-10 waveAt(0,4)=-4 waveAt(0,5)=1 waveAt(0,6)=7"
                + " waveAt(0,7)=7 waveAt(1,0)=9 waveAt(1,1)=-9 waveAt(1,2)=9 waveAt(2,0)=0 waveAt(2,1)=-1"
                + " waveAt(2,2)=0 waveAt(3,0)=978 waveAt(3,49)=-999 waveAt(3,98)=978 waveAt(3,25)=-30"
                + " waveAt(3,24)=10");
        Calls.run("section 2, pulse: AMP if k is 0", HEAD + ";mic 0 0 1;map 0 0 1 1 1;source pulse 0 0 0 0 999 2 0"
                + ";source pulse 0 0 0 0 1 99 99;source pulse 0 0 0 0 1 99 98;source pulse 0 0 0 0 1 30 29",
                "waveAt(0,0)=999 waveAt(0,1)=0 waveAt(0,2)=999 waveAt(1,0)=1 waveAt(1,31)=0 waveAt(2,0)=0 waveAt(2,1)=1"
                + " waveAt(3,0)=0 waveAt(3,1)=1 waveAt(3,31)=1");
        Calls.run("section 2, noise", "camera distance 100 step 1 samples 200 limit 9999;mic 0 0 1;map 0 0 1 1 1"
                + ";source noise 0 0 0 0 1 2 0;source noise 0 0 0 0 999 99 99;source noise 0 0 0 0 999 2 0",
                "waveAt(0,0)=-1 waveAt(0,1)=-1 waveAt(1,0)=358 waveAt(1,31)=-224 waveAt(1,199)=-727 waveAt(2,0)=-999"
                + " waveAt(2,199)=-85");
    }

    private static void delays() {
        Calls.run("section 2, the root rounded down", HEAD + ";mic 0 0 1;mic -500 500 1;map 0 0 1 1 1",
                "delayTo(0,14,2)=0 delayTo(0,32,0)=4 delayTo(0,32,1)=5 delayTo(0,-32,-1)=5 delayTo(0,75,0)=25"
                + " delayTo(0,74,0)=24 delayTo(0,85,0)=31 delayTo(0,86,0)=31 delayTo(0,87,0)=32 delayTo(0,88,0)=33"
                + " delayTo(1,9999,-9999)=14748 delayTo(1,10000,0)=A delayTo(1,0,-10000)=A");
        Calls.run("section 2, both quotients rounded down", "camera distance 198 step 99 samples 32 limit 1;mic 0 0 1"
                + ";mic -500 500 1;map 0 0 1 1 1", "delayTo(0,0,0)=0 delayTo(0,222,0)=1 delayTo(0,221,0)=0");
        Calls.run("section 2, at the greatest distance", "camera distance 5000 step 1 samples 32 limit 1;mic -500 500 1"
                + ";map 0 0 1 1 1", "delayTo(0,9999,-9999)=10667 delayTo(0,-500,500)=0");
        Calls.run("promises 20 and 21, all cells at the microphone", HEAD + ";mic 5 5 1;map 5 5 1 1 1",
                "spread(0)=0 window(0)=32 delay(0,0)=0 delay(1,0)=X delay(0,1)=X delay(-1,-1)=X");
        Calls.run("promise 20, of active microphones alone", HEAD + ";mic 0 0 1;mic 75 0 1;mic 85 0 1;map 0 0 1 1 1",
                "spread(0)=31 mute(2,1)=false spread(0)=25 mute(0,1)=false spread(0)=0 mute(2,0)=true spread(0)=6"
                + " window(0)=1 mute(1,1)=false spread(0)=0 mute(2,1)=false spread(0)=0 window(0)=32");
    }

    private static void arrivals() {
        Calls.run("section 2, 0 if t - d is below 0", HEAD + ";mic 75 0 1;mic 0 0 1;mic 86 0 1;mic 87 0 1;map 0 0 1 1 1"
                + ";source square 0 0 0 0 5 99 0", "sample(0,0)=0 sample(0,24)=0 sample(0,25)=5 sample(0,31)=5"
                + " sample(1,0)=5 sample(2,30)=0 sample(2,31)=5 sample(3,31)=0");
        Calls.run("section 2, fade, rounded towards 0", HEAD + ";mic 0 0 1;mic 75 0 1;map 0 0 1 1 1;fade 1"
                + ";source square 0 0 0 0 51 2 0", "sample(0,0)=51 sample(0,1)=-51 sample(1,25)=1 sample(1,26)=-1"
                + " sample(1,24)=0");
        Calls.run("section 2, fade, the greatest one", HEAD + ";mic 75 0 1;map 0 0 1 1 1;fade 999"
                + ";source square 0 0 0 0 999 2 0", "sample(0,25)=974 sample(0,26)=-974");
        Calls.run("section 2, fade of what is less than its divisor", HEAD + ";mic 75 0 1;map 0 0 1 1 1;fade 1"
                + ";source square 0 0 0 0 25 2 0", "sample(0,25)=0 sample(0,26)=0");
    }

    private static void images() {
        // the image of (0, 0) behind a wall at 38 is at (76, 0): its delay is 25, as that from 75
        Calls.run("section 2, an image, rounded towards 0", HEAD + ";mic 0 0 9;map 0 0 1 1 1;wall 38 99;wall -38 1"
                + ";source square 0 0 0 0 199 99 0", "sample(0,24)=1791 sample(0,25)=3573");
        Calls.run("section 2, an image of a negative wave", HEAD + ";mic 0 0 1;map 0 0 1 1 1;wall 0 99"
                + ";source square 0 0 0 0 1 2 0", "sample(0,0)=1 sample(0,1)=-1");
        Calls.run("section 2, an image in the same way: fade first, then PERCENT", HEAD + ";mic 0 0 1;map 0 0 1 1 1"
                + ";wall 38 50;fade 25;source square 0 0 0 0 5 99 0", "sample(0,24)=5 sample(0,25)=6");
        Calls.run("section 2, an image with FROM", HEAD + ";mic 0 0 1;map 0 0 1 1 1;wall 38 100"
                + ";source square 0 0 0 0 5 99 0 from 4", "sample(0,3)=0 sample(0,4)=5 sample(0,28)=5 sample(0,29)=10");
        Calls.run("section 2, the farthest images", HEAD + ";mic 0 0 1;map 0 0 1 1 1;wall -2000 100;wall 2000 100"
                + ";source square 2000 0 0 0 5 99 0", "sample(0,31)=0");
        Calls.run("section 2, an image at the microphone", HEAD + ";mic 0 0 1;map 0 0 1 1 1;wall 1000 100"
                + ";source square 2000 0 0 0 5 99 0", "sample(0,0)=5 sample(0,31)=5");
        Calls.run("section 2, an image moves against its source", HEAD + ";mic 0 0 1;map 0 0 1 1 1;wall 50 100"
                + ";source square 100 0 999 0 5 99 0", "sample(0,0)=5 sample(0,1)=5 sample(0,10)=0");
    }

    private static void clocksAndFilters() {
        Calls.run("section 2, 0 for t less than OFFSET", HEAD + ";mic 0 0 2;mic 0 0 3;map 0 0 1 1 1;clock 1 1;clock 0"
                + " 31;source square 0 0 0 0 5 2 0", "sample(0,30)=0 sample(0,31)=10 sample(1,0)=0 sample(1,1)=15"
                + " sample(1,2)=-15 sample(1,31)=15");
        Calls.run("section 2, the filter: 0 for t - i below 0", HEAD + ";mic 0 0 1;map 0 0 1 1 1;filter 1 2 3 4 -5"
                + ";source square 0 0 0 0 1 99 0", "sample(0,0)=1 sample(0,1)=3 sample(0,2)=6 sample(0,3)=10"
                + " sample(0,4)=5 sample(0,31)=5");
        Calls.run("section 2, the filter in the order of its numbers", HEAD + ";mic 0 0 1;map 0 0 1 1 1"
                + ";filter 0 0 0 0 9;source pulse 0 0 0 0 1 30 0", "sample(0,0)=0 sample(0,3)=0 sample(0,4)=9"
                + " sample(0,5)=0 sample(0,30)=0 sample(0,31)=0");
        Calls.run("section 2, a filter of 0 alone", HEAD + ";mic 0 0 1;map 0 0 1 1 1;filter -0;source pulse 0 0 0 0 1"
                + " 2 0",
                "sample(0,0)=0 best()=0 bestPower()=0 clean(100)=0 cleaned()=1");
        Calls.run("section 2, clock and filter", HEAD + ";mic 0 0 1;map 0 0 1 1 1;filter 1 1;clock 0 30"
                + ";source square 0 0 0 0 5 99 0", "sample(0,29)=0 sample(0,30)=5 sample(0,31)=10");
    }

    private static void limits() {
        String two = ";mic 0 0 1;map 0 0 1 1 1;source square 0 0 0 0 ";
        Calls.run("section 2, at LIMIT", HEAD.replace("9999", "20") + two + "20 2 0", "sample(0,0)=20 sample(0,1)=-20");
        Calls.run("section 2, beyond LIMIT", HEAD.replace("9999", "20") + two + "21 2 0", "sample(0,0)=20"
                + " sample(0,1)=-20");
        Calls.run("section 2, below LIMIT", HEAD.replace("9999", "20") + two + "19 2 0", "sample(0,0)=19"
                + " sample(0,1)=-19");
        Calls.run("section 2, the least LIMIT", HEAD.replace("9999", "1") + two + "999 2 0", "sample(0,0)=1"
                + " sample(0,1)=-1");
        // raw: 25, 15, -5, -15; a bound before the filter would make 20, -5
        Calls.run("section 2, LIMIT is for the filtered sample", HEAD.replace("9999", "20") + two + "15 4 0"
                + ";source pulse 0 0 0 0 10 4 0;source pulse 0 0 0 0 10 4 2;filter 1 -1",
                "sample(0,0)=20 sample(0,1)=-10 sample(0,2)=-20 sample(0,3)=-10 sample(0,4)=20");
        Calls.run("section 2, LIMIT is for the sum of all sources", HEAD + ";mic 0 0 9;map 0 0 1 1 1"
                + ";source square 0 0 0 0 999 2 0;source square 0 0 0 0 999 2 1;source square 0 0 0 0 999 2 0;source"
                + " square 0 0 0 0 999 2 0", "sample(0,0)=9999 sample(0,1)=-9999 setOn(0,0)=true"
                + " sample(0,0)=8991");
        Calls.run("section 2, cleaned samples are no recordings that are made", HEAD.replace("9999", "10")
                + ";mic 0 0 1;mic 0 0 1;clock 1 1;map 0 0 1 1 1;source square 0 0 0 0 10 2 0;shade 9 1",
                "sample(0,1)=-10 sample(1,1)=10 clean(100)=0 sample(0,1)=-2 sample(1,1)=18");
    }

    private static void windows() {
        Calls.run("section 3, the window is at least 0", HEAD + ";mic 0 0 1;map 86 0 1 3 1" + LAST,
                "window(0)=1 window(1)=0 window(2)=0 beam(0,0)=10 beam(0,1)=A beam(0,-1)=A beam(1,0)=A beam(2,0)=A"
                + " power(0)=100 power(1)=0 power(2)=0 powerAt(86,0)=100 powerAt(87,0)=0 powerAt(-86,0)=100 best()=0"
                + " bestPower()=100 meanPower()=33 peaks()=1 isPeak(0)=true isPeak(1)=false isPeak(2)=false"
                + " peakAt(0)=0 peakAt(1)=X contrast()=0.0 spread(1)=0 blockPower(0,0,1)=100 blockPower(0,0,2)=50"
                + " blockPower(0,0,32)=3 blockPower(0,1,1)=0 blockPower(1,0,32)=0 blockBest(1,31)=0");
        Calls.run("section 5, the window of the best cell is 1", HEAD + ";mic 0 0 1;map 86 0 1 3 1"
                + ";source pulse 0 0 0 0 10 31 0", "sample(0,0)=10 sample(0,31)=10 clean(100)=0 sample(0,0)=10"
                + " sample(0,31)=0 clean(100)=0 sample(0,0)=10 cleaned()=2");
        Calls.run("section 5, the window of the best cell is 0", HEAD + ";mic 0 0 1;map 87 0 1 2 1"
                + ";source square 0 0 0 0 10 2 0", "window(0)=0 window(1)=0 best()=0 bestPower()=0 clean(100)=0"
                + " cleaned()=1 undoable()=1 sample(0,0)=10 sample(0,31)=-10 movingPower(0,0,0)=0 trackScore(4)=0"
                + " path(4)=0 pointPower(0,0,2)=0 pointBest(1,2)=0 writeMap()=2 mapByte(0)=48 mapByte(1)=48");
        Calls.run("section 3, the greatest delay of an active microphone", HEAD + ";mic 0 0 1;mic 87 0 1;map 0 0 1 1 1"
                + ";source pulse 0 0 0 0 10 16 0", "window(0)=0 power(0)=0 mute(1,1)=false window(0)=32 power(0)=6"
                + " beam(0,31)=0 setWeight(0,0)=1 window(0)=32 mute(1,0)=true window(0)=0 mute(0,1)=false window(0)=0"
                + " mute(1,1)=false window(0)=32");
        Calls.run("section 3, weights of 0 and 9", HEAD + ";mic 0 0 1;mic 0 0 2;map 0 0 1 1 1;shade 0 9"
                + ";source square 0 0 0 0 10 2 0", "beam(0,0)=180 beam(0,31)=-180 setWeight(1,0)=9 beam(0,0)=0"
                + " window(0)=32 setWeight(0,9)=0 beam(0,0)=90 power(0)=8100");
    }

    private static void noneActive() {
        Calls.run("sections 3 and 4, no active microphone", HEAD + ";mic 0 0 1;mic 75 0 2;map 0 0 75 3 2"
                + ";source square 0 0 0 0 10 16 0;zone 1 1 2 1", "mute(0,1)=false mute(1,1)=false isMuted(0)=true"
                + " isMuted(1)=true spread(0)=0 spread(5)=0 window(0)=32 window(5)=32 beam(0,0)=0 beam(5,31)=0"
                + " beam(5,32)=A power(0)=0 powerAt(9999,9999)=0 best()=0 bestPower()=0 meanPower()=0 peaks()=0"
                + " peakAt(0)=X isPeak(0)=false zonePower(0)=0 zoneBest(0)=4 contrast()=0.0 alias(0,0,2)=0"
                + " alias(0,5,99)=0 isAlias(1,2,1)=false isAlias(0,2,1)=false aliases(2,1)=0 blockPower(0,0,32)=0"
                + " blockBest(0,32)=0 path(4)=0 trackScore(4)=0 trackCell(4,7)=0 movingPower(0,0,0)=0"
                + " bestVelocity(5,99,4)=0 correlation(0,0,0)=3200 level(0)=100 loudest(0)=0 writeMap()=7"
                + " mapByte(0)=48 pointBest(5,2)=0 pointPower(5,5,2)=0 bestWithout(0)=0 bestIfOff(0)=0 save(0)=0"
                + " clean(1)=S clean(0)=S clean(101)=S moveSource(0,75,0)=0 setVelocity(0,1,1)=0 setOn(0,1)=true"
                + " undoable()=5 mute(1,0)=true clean(0)=A clean(101)=A best()=0 clean(1)=0");
        Calls.run("promise 60, a weight sum of 0", HEAD + ";mic 0 0 1;mic 0 0 1;map 0 0 1 1 1;shade 0 1"
                + ";source square 0 0 0 0 10 16 0", "mute(1,1)=false clean(100)=S clean(0)=S cleaned()=0 undoable()=1"
                + " sample(0,0)=10 setWeight(0,1)=0 clean(100)=0 cleaned()=1 sample(0,0)=0 sample(1,0)=10"
                + " setWeight(0,0)=1 mute(1,0)=true clean(100)=0 sample(0,0)=-10 sample(1,0)=0 setWeight(1,0)=1"
                + " clean(1)=S");
    }

    private static void onlyCell() {
        Calls.run("sections 3 and 4, a map of one cell", HEAD + ";mic 0 0 1;map 0 0 99 1 1;zone 0 0 0 0" + LAST,
                "best()=0 bestPower()=3 meanPower()=3 peaks()=1 peakAt(0)=0 peakAt(1)=X isPeak(0)=true zonePower(0)=3"
                + " zoneBest(0)=0 contrast()=0.0 isAlias(0,2,1)=false aliases(2,1)=0 alias(0,0,99)=1 path(4)=0"
                + " trackScore(4)=25 trackCell(4,7)=0 trackCell(4,8)=X writeMap()=1 mapByte(0)=57 mapByte(1)=X"
                + " cellAt(0,0)=0 cellAt(1,0)=X bestWithout(0)=0 mute(0,1)=false peaks()=1 isPeak(0)=true"
                + " contrast()=0.0 peakAt(0)=0 aliases(99,1)=0 writeMap()=1 mapByte(0)=48");
        Calls.run("a map of one row and one of one column", HEAD + ";mic 0 0 1;map 0 0 75 2 1" + LAST,
                "power(0)=3 power(1)=14 writeMap()=2 mapByte(0)=49 mapByte(1)=57 peaks()=1 peakAt(0)=1");
        Calls.run("a map of one row and one of one column", HEAD + ";mic 0 0 1;map 0 0 75 1 2" + LAST,
                "power(0)=3 power(1)=14 writeMap()=3 mapByte(0)=49 mapByte(1)=59 mapByte(2)=57 mapByte(3)=X peaks()=1");
    }

    private static void powers() {
        Calls.run("section 3, divided by the window, rounded down", GRID, "power(0)=344 power(1)=322 power(2)=555"
                + " power(3)=400 power(4)=370 power(5)=714 window(0)=29 window(1)=31 window(2)=18 window(3)=25"
                + " window(4)=27 window(5)=14 meanPower()=450 bestPower()=714 best()=5 zonePower(0)=2705 zoneBest(0)=5"
                + " zonePower(1)=555 zoneBest(1)=2 zonePower(2)=744 zoneBest(2)=3 zonePower(3)=770 zoneBest(3)=3"
                + " zonePower(4)=X zoneBest(-1)=X powerAt(-40,0)=344 powerAt(40,40)=714");
        Calls.run("promises 26 and 33, of several the smallest", HEAD + ";mic 0 0 1;map -75 -75 75 3 3" + LAST
                + ";zone 1 1 2 2;zone 0 0 2 2", "power(0)=0 power(1)=14 power(3)=14 power(4)=3 power(5)=14 power(7)=14"
                + " best()=1 bestPower()=14 zoneBest(0)=5 zonePower(0)=31 zoneBest(1)=1 zonePower(1)=59 meanPower()=6"
                + " blockBest(6,1)=1 blockBest(0,6)=0 blockBest(31,1)=4 loudest(0)=0");
    }

    private static void peaks() {
        Calls.run("section 4, the end of a row is no neighbour of the next row", GRID, "peaks()=2 peakAt(0)=5"
                + " peakAt(1)=3 peakAt(2)=X peakAt(-1)=X isPeak(3)=true isPeak(2)=false isPeak(5)=true"
                + " isPeak(0)=false");
        Calls.run("section 4, the cells of one column", HEAD + ";mic 0 0 1;map 0 -75 75 1 5" + LAST, "power(0)=14"
                + " power(1)=3 power(2)=14 power(3)=0 power(4)=0 peaks()=2 peakAt(0)=0 peakAt(1)=2 isPeak(1)=false"
                + " isPeak(3)=false isPeak(4)=false");
        Calls.run("section 4, diagonal neighbours and equal ones", HEAD + ";mic 0 0 1;map -75 -75 75 3 3" + LAST,
                "peaks()=0 isPeak(1)=false isPeak(4)=false peakAt(0)=X");
        Calls.run("promise 30, of equal powers the smaller number", HEAD + ";mic 0 0 1;map -75 0 75 3 1" + LAST,
                "peaks()=2 peakAt(0)=0 peakAt(1)=2 peakAt(2)=X");
    }

    private static void contrasts() {
        // 99980001 and a third of it, which are no floats: as floats they are 99980000 and 33326668
        Calls.run("promise 34, both powers as floats", HEAD + ";mic 0 0 9;map 83 0 3 2 1"
                + ";source pulse 0 0 0 0 999 99 68".repeat(2), "power(0)=33326667 power(1)=99980001 contrast()="
                + 99980000.0f / 33326668.0f);
        Calls.run("promise 34, 714 by 555", GRID, "contrast()=" + 714.0f / 555.0f);
        Calls.run("promise 34, the second one may be the same", HEAD + ";mic 0 0 1;map -75 0 75 3 1" + LAST,
                "contrast()=1.0");
        Calls.run("promise 34, the second one is 0", HEAD + ";mic 0 0 1;map 86 0 1 2 1" + LAST, "contrast()=0.0");
        Calls.run("promise 34, the greatest one is 0", HEAD + ";mic 0 0 1;map 0 0 1 2 1", "contrast()=0.0");
    }

    private static void aliasMarks() {
        Calls.run("section 4, remainders from 0 to period - 1", HEAD + ";mic 0 0 1;mic 75 0 1;map 0 0 75 2 1",
                "alias(0,1,2)=2 alias(0,1,3)=1 alias(1,0,3)=1 alias(0,1,5)=2 alias(0,1,10)=2 alias(0,1,25)=2"
                + " alias(0,1,50)=2 alias(0,1,51)=1 alias(0,1,99)=1 alias(1,1,99)=2 mute(0,1)=false alias(0,1,99)=1");
        AcousticCamera x = Calls.run("section 4, at least share times the number", THIRDS, "best()=2 peaks()=2"
                + " isAlias(0,7,66)=true isAlias(0,7,67)=false isAlias(0,5,100)=true isAlias(0,5,1)=true"
                + " aliases(5,100)=1 isAlias(1,5,1)=false isAlias(2,5,1)=false alias(2,2,5)=3 aliases(7,66)=1"
                + " aliases(7,67)=0");
        Calls.run("section 4, 100 times 1 is 50 times 2", x, "mute(1,1)=false best()=2 isAlias(0,7,50)=true"
                + " isAlias(0,7,51)=false aliases(7,50)=1 aliases(7,51)=0 isAlias(0,2,100)=true isAlias(0,99,1)=true"
                + " isAlias(3,7,50)=X isAlias(0,1,50)=A isAlias(0,100,50)=A isAlias(0,7,0)=A isAlias(0,7,101)=A");
    }

    private static void blocks() {
        // cell 0 has 10 at 31 - 25, cell 1 at 31
        String two = HEAD + ";mic 0 0 1;map -75 0 75 2 1" + LAST;
        Calls.run("promise 38, only the samples of the window", two, "blockPower(0,0,7)=14 blockPower(0,6,1)=100"
                + " blockPower(0,6,32)=3 blockPower(0,7,1)=0 blockPower(0,31,32)=0 blockPower(0,0,6)=0"
                + " blockPower(1,31,1)=100 blockPower(1,31,2)=50 blockPower(1,31,32)=3 blockPower(1,30,1)=0"
                + " blockPower(1,0,31)=0 blockPower(1,0,32)=3 blockBest(31,1)=1 blockBest(6,1)=0 blockBest(7,24)=0"
                + " blockBest(0,32)=0");
        Calls.run("promise 40, blocks that end within the samples", two, "path(4)=1 path(8)=1 path(16)=1 path(10)=0"
                + " path(11)=0 path(15)=0 path(17)=0 path(31)=0 path(32)=0 path(3)=A path(33)=A trackScore(3)=A"
                + " trackScore(33)=A");
        // cell 0 has 10 at 6, cell 1 at 5 and 31
        Calls.run("promise 40, from 0, length, 2 * length and so on", HEAD + ";mic 0 0 1;map -75 0 75 2 1"
                + ";source pulse 0 0 0 0 10 26 21", "path(6)=1 blockBest(0,6)=1 blockBest(6,6)=0 path(4)=1 path(5)=0"
                + " path(7)=0 path(8)=1 path(16)=1 blockBest(0,7)=0 blockBest(5,2)=0");
    }

    /** One cell, whose beam is its sample: 10 at 31, the last one. */
    private static void blocksOfTheEnd() {
        Calls.run("section 4, the blocks of a length are those of path", HEAD + ";mic 0 0 1;map 0 0 1 1 1" + LAST,
                "trackScore(4)=25 trackScore(5)=0 trackScore(8)=12 trackScore(10)=0 trackScore(15)=0 trackScore(16)=6"
                + " trackScore(17)=0 trackScore(31)=0 trackScore(32)=3 trackCell(4,7)=0 trackCell(4,8)=X"
                + " trackCell(5,5)=0 trackCell(5,6)=X trackCell(16,1)=0 trackCell(16,2)=X trackCell(17,0)=0"
                + " trackCell(17,1)=X trackCell(31,0)=0 trackCell(31,1)=X trackCell(32,0)=0 trackCell(32,1)=X"
                + " trackCell(33,0)=A trackCell(3,-1)=A trackCell(32,-1)=X");
        String threeTimes = HEAD.replace("32", "200") + ";mic 0 0 1;map 0 0 1 1 1;source pulse 0 0 0 0 10 99 0";
        Calls.run("section 4, the most blocks", threeTimes, "trackCell(4,49)=0 trackCell(4,50)=X trackScore(4)=75"
                + " trackScore(200)=1 trackScore(199)=1 trackScore(198)=1 trackScore(201)=A trackCell(200,0)=0"
                + " trackCell(200,1)=X trackCell(100,1)=0 trackCell(101,1)=X sample(0,198)=10 blockPower(0,196,4)=25");
    }

    private static void tracks() {
        Calls.run("promise 42, asked first", HEAD + ";mic 0 0 1;map 0 0 15 3 1" + LAST, "trackCell(10,2)=2"
                + " trackCell(16,1)=0 trackCell(10,2)=2 blockBest(0,4)=0 trackCell(10,1)=1 trackCell(10,2)=2");
        // only cell 2 is heard within the three blocks, in the last one: the cells before are the smallest near ones
        Calls.run("section 4, the smallest cell in the first block, then in the second one", HEAD + ";mic 0 0 1"
                + ";map 0 0 15 3 1" + LAST, "delay(0,1)=1 delay(0,2)=4 trackScore(10)=10 trackCell(10,0)=0"
                + " trackCell(10,1)=1 trackCell(10,2)=2 trackCell(10,3)=X path(10)=1");
        // 10 at 0 and 61: cell 0 in the blocks 0 and 3, the diagonal one in block 1, the two others in block 2
        Calls.run("section 4, a step to a diagonal neighbour", HEAD.replace("32", "96") + ";mic 0 0 1;map 0 0 75 2 2"
                + ";source pulse 0 0 0 0 10 61 0", "trackScore(16)=24 trackCell(16,0)=0 trackCell(16,1)=3"
                + " trackCell(16,2)=1 trackCell(16,3)=0 trackCell(16,4)=0 trackCell(16,5)=0 trackCell(16,6)=X"
                + " path(16)=3");
        // 81 by 16 is rounded down in each block: 5 + 5
        Calls.run("section 4, the sum of the powers of blocks", HEAD + ";mic 0 0 1;map 0 0 1 1 1;source pulse 0 0 0 0"
                + " 9 16 0",
                "trackScore(16)=10 trackScore(32)=5 blockPower(0,0,16)=5");
        // the cells 5, 2, 3, 4, 0, 1 have 100 at 6, 10, 17, 19, 21 and 23: no step leads from 5 or 2 to 3
        Calls.run("section 4, no step from the end of a row to the next row", GRID.replace(";source pulse -15 10 0 0"
                + " 100 99 68",
                ";source pulse -15 10 0 0 100 99 75"), "sample(0,24)=100 delay(0,5)=18 delay(0,2)=14 delay(0,3)=7"
                + " blockPower(5,6,6)=1666 blockPower(2,6,6)=1666 blockPower(3,12,6)=1666 blockPower(4,18,6)=1666"
                + " trackScore(6)=3332 trackCell(6,0)=0 trackCell(6,1)=0 trackCell(6,2)=3 trackCell(6,3)=0"
                + " trackCell(6,4)=0 trackCell(6,5)=X trackScore(4)=10000 trackCell(4,0)=1 trackCell(4,1)=5"
                + " trackCell(4,2)=2 trackCell(4,3)=1 trackCell(4,4)=3 trackCell(4,5)=0 trackCell(4,7)=0");
    }

    private static void movingFocus() {
        Calls.run("promise 43, samples beyond count as 0, the window is SAMPLES", HEAD + ";mic 0 0 1;mic 87 0 1"
                + ";map 0 0 1 1 1;source pulse 0 0 0 0 10 16 0", "window(0)=0 power(0)=0 movingPower(0,0,0)=6"
                + " blockPower(0,0,32)=0");
        Calls.run("promise 43, 10 at 31 by 32", HEAD + ";mic 0 0 1;map 0 0 1 1 1" + LAST, "movingPower(0,0,0)=3"
                + " movingPower(0,999,0)=0 bestVelocity(0,1,0)=0 bestVelocity(0,99,0)=0 bestVelocity(0,1,4)=0");
        // the sample 178 is met at t = 0, 1 and 178: at 1 the focus is at (10 - 1, 0)
        Calls.run("promise 43, the quotients are rounded towards 0", "camera distance 100 step 1 samples 200 limit 9999"
                + ";mic -250 0 1;map 10 0 1 1 1;source pulse -250 0 0 0 100 99 20", "sample(0,79)=100 sample(0,178)=100"
                + " movingPower(0,-150,0)=150 movingPower(0,150,0)=50 movingPower(0,-1000,0)=A"
                + " movingPower(0,0,1000)=A");
        // the first microphone has 10 at 1, 100 and 199, a sample more would be the first one of the second microphone
        Calls.run("promise 43, beyond the last of 200 samples", HEAD.replace("32", "200") + ";mic 15 0 1;mic 0 0 1"
                + ";shade 1 0;map 0 0 1 1 1;source pulse 0 0 0 0 10 99 0", "sample(0,199)=10 sample(1,0)=10"
                + " movingPower(0,0,0)=1 correlation(0,0,1)=0 correlation(0,0,99)=200 correlation(0,0,100)=0"
                + " correlation(0,0,198)=100 correlation(0,0,199)=0 correlation(0,1,199)=0 power(0)=1"
                + " blockPower(0,198,2)=50 blockPower(0,199,1)=0 beam(0,198)=10 beam(0,199)=A window(0)=199");
        // 10 at 14: of the velocities up to 8 those that keep the delay 0 there are as good as none
        Calls.run("promise 44, of several the smallest number", HEAD + ";mic 0 0 1;map 0 0 1 1 1"
                + ";source pulse 0 0 0 0 10 99 85", "sample(0,14)=10 movingPower(0,4,-4)=3 bestVelocity(0,1,4)=0");
        // with 99 and -99, 0 or 99 the delays meet the only sample twice, at 13 and 14
        Calls.run("promise 44, 100 * (i + most) + k + most", HEAD + ";mic 0 0 1;map -75 0 75 1 1" + LAST,
                "movingPower(0,0,0)=3 movingPower(0,99,-99)=6 movingPower(0,99,0)=6 movingPower(0,-396,-396)=3"
                + " bestVelocity(0,99,4)=503 bestVelocity(0,99,1)=200 bestVelocity(0,99,0)=0 bestVelocity(0,99,5)=A"
                + " bestVelocity(0,100,1)=A bestVelocity(0,0,1)=A bestVelocity(0,99,-1)=A");
    }

    private static void lags() {
        Calls.run("promise 45, from 0 to SAMPLES - 1 - lag", HEAD + ";mic 0 0 1;mic 0 0 2;map 0 0 1 1 1;clock 1 31"
                + ";source pulse 0 0 0 0 10 31 0", "sample(1,31)=20 correlation(0,1,31)=200 correlation(0,1,30)=0"
                + " correlation(0,1,0)=200 correlation(1,0,31)=0 correlation(0,0,31)=100 correlation(0,0,0)=200"
                + " correlation(1,1,31)=0 correlation(0,1,32)=A correlation(0,1,-1)=A correlation(0,2,0)=X"
                + " correlation(2,0,0)=X bestLag(0,1,31)=0 bestLag(1,0,31)=0 bestLag(0,1,32)=A bestLag(0,1,-1)=A");
        Calls.run("promise 46, most is considered, of several the smallest", HEAD + ";mic 0 0 1;mic 0 0 1;map 0 0 1 1 1"
                + ";clock 1 9;source square 0 0 0 0 10 8 0", "bestLag(0,1,0)=0 bestLag(0,1,1)=1 bestLag(0,1,31)=1"
                + " bestLag(0,0,31)=0 bestLag(1,1,0)=0");
        Calls.run("promise 46, the last lag", HEAD + ";mic 0 0 1;mic 0 0 1;map 0 0 1 1 1;clock 1 31"
                + ";source pulse 0 0 0 0 10 99 0", "bestLag(0,1,30)=0 bestLag(0,1,31)=31 mute(0,1)=false"
                + " mute(1,1)=false bestLag(0,1,31)=31 correlation(0,1,31)=100");
        Calls.run("promise 46, all below 0", HEAD + ";mic 0 0 1;mic 0 0 1;map 0 0 1 1 1;clock 1 1"
                + ";source square 0 0 0 0 10 2 0", "correlation(0,1,0)=-3100 correlation(0,1,1)=3100 bestLag(0,1,0)=0"
                + " bestLag(0,1,1)=1");
    }

    private static void levels() {
        Calls.run("promise 47, rounded down, muted or not", HEAD + ";mic 0 0 1;mic 0 0 2;mic 0 0 1;map 0 0 1 1 1"
                + LAST,
                "level(0)=3 level(1)=12 mute(1,1)=false level(1)=12 loudest(0)=1 loudest(1)=0 loudest(2)=2 loudest(3)=X"
                + " loudest(-1)=X setWeight(1,0)=1 level(1)=12");
        // 9 * 9 and 8 * 8 by 32 are both 2: the levels are equal, though the sums are not
        Calls.run("promise 48, equal levels", HEAD + ";mic 0 0 8;mic 0 0 9;map 0 0 1 1 1;source pulse 0 0 0 0 1 99 0",
                "level(0)=2 level(1)=2 loudest(0)=0 loudest(1)=1");
    }

    private static void maps() {
        Calls.run("promise 49, 9 * power / greatest, rounded down", GRID, "mapByte(0)=X writeMap()=7 mapByte(0)=52"
                + " mapByte(1)=52 mapByte(2)=54 mapByte(3)=59 mapByte(4)=53 mapByte(5)=52 mapByte(6)=57 mapByte(7)=X"
                + " mapByte(-1)=X setOn(0,0)=true mapByte(6)=57 writeMap()=7 mapByte(6)=48 mapByte(3)=59");
        // 100 by 25 and by 1: 9 * 4 / 100; then 36 / 9 is 4, no less
        Calls.run("promise 49, a quotient without a rest", HEAD + ";mic 0 0 1;map 0 0 1 1 1" + LAST, "writeMap()=1"
                + " mapByte(0)=57");
        Calls.run("promise 50, before the first map", HEAD + ";mic 0 0 1;map 0 0 1 12 12",
                "mapByte(0)=X mapByte(-1)=X mapByte(155)=X writeMap()=155 mapByte(12)=59 mapByte(154)=48"
                + " mapByte(155)=X");
    }

    private static void points() {
        Calls.run("promise 51, without any source of its own", HEAD + ";mic 0 0 1;map 0 0 75 3 1",
                "pointPower(0,0,2)=10000"
                + " pointPower(0,0,99)=10000 pointPower(1,1,2)=10000 pointPower(1,0,2)=2187 pointBest(0,2)=0"
                + " pointBest(1,2)=1 pointPower(0,0,1)=A pointPower(0,0,100)=A pointBest(3,2)=X pointPower(0,3,2)=X"
                + " sources()=0 bestPower()=0");
        // the sums of two samples that follow one another: 100 once, then 0, 200 or -200
        Calls.run("promise 51, the given PERIOD, and PHASE 0", HEAD + ";mic 0 0 1;map 0 0 1 1 1;filter 1 1",
                "pointPower(0,0,2)=312 pointPower(0,0,3)=12812 pointPower(0,0,4)=20312 pointPower(0,0,64)=39062"
                + " pointPower(0,0,62)=37812 pointPower(0,0,99)=39062");
        Calls.run("promise 51, no recordings but those of one source", HEAD + ";mic 0 0 1;map 0 0 75 2 1"
                + ";source square 0 0 500 0 999 2 0;off 0", "pointPower(0,0,2)=10000 setOn(0,1)=false"
                + " pointPower(0,0,2)=10000 clean(100)=0 pointPower(0,0,2)=10000 setVelocity(0,0,0)=0"
                + " pointPower(0,0,2)=10000 cleaned()=0");
        Calls.run("promise 52, from the present weights and mutes", HEAD + ";mic 0 0 1;mic 0 0 1;map 0 0 75 2 1",
                "pointPower(0,0,2)=40000 mute(1,1)=false pointPower(0,0,2)=10000 setWeight(0,9)=1"
                + " pointPower(0,0,2)=810000 mute(0,1)=false pointPower(0,0,2)=0 pointBest(1,2)=0");
    }

    private static void without() {
        Calls.run("promise 53, the last active microphone, and one that is muted", HEAD + ";mic 75 0 1;mic 0 0 1"
                + ";map 0 0 75 2 1;source pulse 0 0 0 0 10 99 68", "best()=1 bestWithout(0)=1 bestWithout(1)=0"
                + " mute(0,1)=false best()=1 bestWithout(1)=0 bestWithout(0)=1 isMuted(1)=false undoable()=1"
                + " bestWithout(2)=X");
        Calls.run("promise 54, a source that is off already, after a cleaning", HEAD + ";mic 0 0 1;map 0 0 75 2 1"
                + ";source pulse 0 0 0 0 10 31 0;source pulse 0 0 0 0 1 99 68;off 1",
                "best()=1 bestIfOff(1)=1 bestIfOff(0)=0 clean(100)=1 best()=0 bestIfOff(1)=1 bestIfOff(0)=0 cleaned()=1"
                + " isOn(0)=true isOn(1)=false undoable()=1 bestIfOff(2)=X bestIfOff(-1)=X");
    }

    private static void cleaning() {
        Calls.run("section 5, rounded towards 0", HEAD + ";mic 0 0 1;mic 0 0 1;map 0 0 1 1 1;shade 1 2"
                + ";source square 0 0 0 0 3 2 0", "beam(0,0)=9 clean(33)=0 sample(0,0)=3 sample(0,1)=-3 clean(34)=0"
                + " sample(0,0)=2 sample(0,1)=-2 sample(1,31)=-2 clean(100)=0 sample(0,0)=0 cleaned()=3");
        Calls.run("section 5, each beam is that before the cleaning", HEAD + ";mic 0 0 1;mic 75 0 1;map 0 0 1 1 1"
                + ";source square 0 0 0 0 8 2 0", "window(0)=7 beam(0,0)=16 beam(0,1)=-16 clean(100)=0 sample(0,0)=0"
                + " sample(0,6)=0 sample(0,7)=-8 sample(0,25)=-8 sample(1,24)=0 sample(1,25)=0 sample(1,31)=0");
        Calls.run("section 5, a muted microphone stays, one without weight does not", HEAD + ";mic 0 0 1;mic 0 0 1"
                + ";mic 0 0 1;map 0 0 1 1 1;shade 1 0 5;source square 0 0 0 0 8 2 0", "mute(2,1)=false clean(50)=0"
                + " sample(0,0)=4 sample(1,0)=4 sample(2,0)=8");
        Calls.run("promise 60, 1 to 100", HEAD + ";mic 0 0 1;map 0 0 1 1 1;source square 0 0 0 0 100 2 0",
                "clean(0)=A clean(101)=A clean(-1)=A clean(1)=0 sample(0,0)=99 sample(0,1)=-99 clean(100)=0"
                + " sample(0,0)=0 cleaned()=2 undo()=1 cleaned()=1 undo()=0 cleaned()=0 sample(0,0)=100");
    }

    /** Twelve microphones, 144 cells and 200 samples, all delays 0: each sample is 10 or -10, each beam 120 or -120. */
    private static void greatestCamera() {
        String text = "camera distance 100 step 99 samples 200 limit 9999;map 0 0 1 12 12;source square 0 0 0 0 10 2 0"
                + ";zone 0 0 11 11" + ";mic 0 0 1".repeat(12);
        Calls.run("all that there may be", text, "best()=0 bestPower()=14400 power(143)=14400 meanPower()=14400"
                + " zonePower(0)=2073600 zoneBest(0)=0 peaks()=0 aliases(2,1)=0 alias(143,0,99)=12 alias(0,143,2)=12"
                + " isAlias(143,2,1)=false loudest(0)=0 loudest(11)=11 loudest(12)=X level(11)=100 delay(11,143)=0"
                + " window(143)=200 spread(143)=0 beam(143,199)=-120 beam(143,200)=A sample(11,199)=-10"
                + " sample(11,200)=A movingPower(143,0,0)=14400 bestVelocity(143,1,4)=0 correlation(11,11,0)=20000"
                + " correlation(11,10,199)=-100 bestLag(10,11,199)=0 trackScore(4)=720000 trackCell(4,49)=0"
                + " trackCell(4,50)=X path(4)=0 blockBest(199,200)=0 blockPower(143,199,200)=72"
                + " pointPower(143,143,99)=1440000 pointBest(143,2)=0 contrast()=1.0 writeMap()=155 mapByte(154)=57"
                + " bestWithout(11)=0 bestIfOff(0)=0 powerAt(11,11)=14400 clean(100)=0 sample(11,199)=0 sample(0,0)=0"
                + " bestPower()=0 cleaned()=1 save(1)=0 undo()=0 bestPower()=14400 mute(11,1)=false bestPower()=12100"
                + " setWeight(10,9)=1 bestPower()=36100 restore(1)=0 bestPower()=0 isMuted(11)=false micAt(10,3)=1");
    }

    /** An object is used for at most 512 calls after it has been made, of which the last one answers as the others. */
    private static void lastCall() {
        AcousticCamera x = Check.loaded(GRID);
        int calls = (GRID.length() + 19) / 20 + 1;
        for (; calls + 4 <= 511; calls += 4) {
            Calls.run("a long run", x, "setWeight(0,2)=1 clean(100)=5 undo()=1 undo()=0");
        }
        for (; calls < 511; calls++) {
            x.best();
        }
        Check.due("the 512th call", x.writeMap(), 7);
    }
}
