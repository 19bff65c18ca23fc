import java.util.ArrayList;
import java.util.List;
import java.util.Set;

/**
 * Section 7, promises 1 to 6 and 55 to 65: what throws changes nothing, what asks changes nothing, which changes can be
 * undone, and what the slots keep. Two objects that went the same way must answer the same, also when all that can be
 * undone is undone and the slots are restored.
 */
public final class KeepTest {
    private static final int LATEST = 6;

    /** What tells of the state, as far as a change can alter it. */
    private static final String STATE = "micAt(0,3) micAt(1,3) isMuted(0) isMuted(1) isOn(0) sourceAt(0,0,0)"
            + " sourceAt(0,0,31) sourceAt(0,1,0) sourceAt(0,1,31) sample(0,0) sample(0,16) sample(0,25) sample(0,31)"
            + " sample(1,0) sample(1,9) sample(1,25) level(0) level(1) cleaned() best() bestPower() undoable()";

    /** What stands beside the state. */
    private static final String REST = "parseError() errorPosition() buffered() mics() columns() rows() sources()"
            + " samples() micAt(0,0) micAt(1,2) cellAt(5,1) waveAt(0,0) delay(1,0) power(0) power(5) zonePower(0)"
            + " zoneBest(1) mapByte(0) mapByte(6) mapByte(7) correlation(0,1,9) window(0) peaks()";

    public static void main(String[] args) {
        whatThrows();
        whatAsks();
        whatThrowsWithoutCamera();
        newObject();
        inputBuffer();
        loads();
        loadsAfterLoads();
        loadsThatFail();
        changesThatAlterNothing();
        latestChanges();
        sinceLoadOrRestore();
        undoEachKind();
        slots();
        answersOfChanges();
        Check.end();
    }

    /** A camera with a full past, both slots, a text of the map, an error and bytes in the buffer. */
    private static AcousticCamera prepared() {
        AcousticCamera x = Check.loaded(Calls.TEXT);
        Calls.run("prepared", x, "setWeight(1,9)=1 mute(0,1)=false save(0)=0 setWeight(0,5)=1 mute(0,0)=true"
                + " moveSource(0,20,-10)=0 setVelocity(0,150,60)=0 clean(30)=0 setOn(0,1)=true clean(40)=0 save(1)=0"
                + " clean(50)=0 writeMap()=7 undoable()=6");
        int n = Check.put(x, "camera step");
        Check.noArgument("load of a spoiled text", () -> x.load(n));
        Check.put(x, "camera distance 100 ");
        return x;
    }

    private static String answers(AcousticCamera x, String calls) {
        StringBuilder answers = new StringBuilder();
        for (String call : calls.split(" ")) {
            answers.append(call).append('=').append(Calls.answer(x, call)).append(' ');
        }
        return answers.toString();
    }

    /** All that an object holds: now, then step by step back, then in the slots. */
    private static String told(AcousticCamera x) {
        StringBuilder told = new StringBuilder(answers(x, REST)).append(answers(x, STATE));
        for (int i = 0; i <= LATEST; i++) {
            told.append("undo()=").append(Calls.answer(x, "undo()")).append(' ').append(answers(x, STATE));
        }
        for (int slot = 0; slot < 2; slot++) {
            String call = "restore(" + slot + ")";
            told.append(call).append('=').append(Calls.answer(x, call)).append(' ').append(answers(x, STATE));
        }
        return told.toString();
    }

    /** Tells the first difference; calls of the names that are left out may differ. */
    private static void same(String about, String got, String due, String... leftOut) {
        String[] gotten = got.split(" ");
        String[] wanted = due.split(" ");
        Check.due(about + ", so many answers", gotten.length, wanted.length);
        for (int i = 0; i < Math.min(gotten.length, wanted.length); i++) {
            if (!gotten[i].equals(wanted[i]) && !List.of(leftOut).contains(Calls.nameOf(wanted[i]))) {
                Check.due(about + ", answer " + i, gotten[i], wanted[i]);
                return;
            }
        }
    }

    private static void whatThrows() {
        String due = told(prepared());
        List<String> met = new ArrayList<>();
        for (String entry : Calls.WRONG.strip().split("\\s+")) {
            String call = entry.substring(0, entry.length() - 1);
            AcousticCamera x = prepared();
            String answer = Calls.answer(x, call);
            // what depends on the state does not throw here: the map is written, the slots are full, and so on
            boolean failed = call.startsWith("load") && answer.equals("A");
            if (Calls.isThrown(answer) && !failed) {
                met.add(call);
                same("after " + call + " threw " + answer, told(x), due);
            }
        }
        Check.due("most calls that throw have thrown", met.size() > 150, true);
        AcousticCamera x = prepared();
        Calls.run("no weight", x, "setWeight(0,0)=5 setWeight(1,0)=9");
        AcousticCamera y = prepared();
        Calls.run("no weight", y, "setWeight(0,0)=5 setWeight(1,0)=9 clean(1)=S clean(0)=S clean(100)=S");
        same("after clean threw for the weights", told(y), told(x));
        AcousticCamera z = prepared();
        Calls.run("load(0)", z, "load(0)=A buffered()=0 parseError()=1 errorPosition()=0");
        same("after load(0)", told(z), due, "errorPosition", "buffered");
        same("after load(21) and load(-1)", told(Calls.run("load", prepared(), "load(21)=X load(-1)=X")), due);
        AcousticCamera none = Check.loaded(Calls.TEXT);
        String before = told(Check.loaded(Calls.TEXT));
        Calls.run("nothing there", none, "undo()=S restore(0)=S restore(1)=S mapByte(0)=X undo()=S");
        same("after undo, restore and mapByte threw", told(none), before);
    }

    private static void whatAsks() {
        String due = told(prepared());
        List<String> met = new ArrayList<>();
        for (String call : Calls.RIGHT.strip().split("\\s+")) {
            if (!Calls.NO_QUESTIONS.contains(Calls.nameOf(call))) {
                AcousticCamera x = prepared();
                String answer = Calls.answer(x, call);
                Check.due(call + " answers twice the same", Calls.answer(x, call), answer);
                met.add(Calls.nameOf(call));
                same("after " + call, told(x), due);
            }
        }
        Check.due("all kinds of questions", Set.copyOf(met).size(), 51);
        AcousticCamera x = prepared();
        Calls.run("the text of the map", x, "setOn(0,0)=true writeMap()=7 mapByte(0)=48 undo()=5 mapByte(0)=48");
        AcousticCamera y = prepared();
        Calls.run("undo, writeMap and undoable are no changes", y, "writeMap()=7 writeMap()=7 undoable()=6 save(0)=0"
                + " undoable()=6 save(1)=0 undoable()=6 append(0,0,0,0,0)=40 undoable()=6");
    }

    private static void whatThrowsWithoutCamera() {
        for (String entry : Calls.WRONG.strip().split("\\s+")) {
            String call = entry.substring(0, entry.length() - 1);
            AcousticCamera x = new AcousticCamera();
            x.append(1, 2, 3, 4, 5);
            String answer = Calls.answer(x, call);
            boolean fails = call.startsWith("load") && answer.equals("A");
            Check.due(call + " without a camera", Calls.isThrown(answer), true);
            Calls.run("without a camera, after " + call, x, "mics()=0 columns()=0 rows()=0 sources()=0 samples()=0"
                    + " undoable()=0 buffered()=" + (fails ? 0 : 20) + " parseError()=" + (fails ? 1 : 0)
                    + " errorPosition()=" + (fails ? 0 : -1) + " best()=S mapByte(0)=X");
        }
    }

    private static void newObject() {
        Calls.run("promise 1", new AcousticCamera(), "buffered()=0 parseError()=0 errorPosition()=-1 mics()=0"
                + " columns()=0 rows()=0 sources()=0 samples()=0 undoable()=0 undo()=S mapByte(0)=X mapByte(-1)=X"
                + " restore(0)=S restore(1)=S restore(2)=X restore(-1)=X save(0)=S save(2)=S load(1)=X load(-1)=X"
                + " cleaned()=S writeMap()=S contrast()=S path(4)=S path(3)=S clean(50)=S clean(0)=S parseError()=0"
                + " errorPosition()=-1 load(0)=A parseError()=1 errorPosition()=0 buffered()=0 mics()=0");
    }

    private static void inputBuffer() {
        AcousticCamera x = new AcousticCamera();
        StringBuilder text = new StringBuilder(Calls.TEXT).append(";filter 1").append(" ".repeat(1000));
        text.setLength(1000);
        Check.put(x, text.substring(0, 980));
        Calls.run("promise 2, room for twenty bytes", x, "buffered()=980");
        Check.put(x, text.substring(980));
        Calls.run("promise 2, no room", x, "buffered()=1000 append(0,0,0,0,0)=-1 buffered()=1000"
                + " append(-1,-1,-1,-1,-1)=-1 load(1001)=X load(2147483647)=X load(-1)=X load(-2147483648)=X"
                + " buffered()=1000 parseError()=0 errorPosition()=-1 load(1000)=6 buffered()=0 load(1)=X load(0)=A"
                + " buffered()=0");
        // a byte of each argument, the most significant one first, and bytes of 128 and more
        int blank = 0x20202020;
        int[] words = {blank, blank, blank, blank, blank};
        for (int i = 0; i < 20; i++) {
            int[] spoiled = words.clone();
            spoiled[i / 4] ^= (0x20 ^ (i % 2 == 0 ? 0xff : 0x80)) << (24 - i % 4 * 8);
            AcousticCamera y = new AcousticCamera();
            Check.due("append", y.append(spoiled[0], spoiled[1], spoiled[2], spoiled[3], spoiled[4]), 20);
            Calls.run("promise 2, byte " + i, y, "load(20)=A parseError()=1 errorPosition()=" + i + " buffered()=0");
        }
        AcousticCamera z = new AcousticCamera();
        for (int i = 1; i <= 50; i++) {
            Calls.run("promise 2", z, "append(1,2,3,4,5)=" + 20 * i);
        }
        Calls.run("promise 2, the 51st time", z, "append(1,2,3,4,5)=-1 load(0)=A append(1,2,3,4,5)=20");
    }

    private static void loads() {
        // the text of the map is no part of the camera
        same("promise 3, a camera replaces the previous one", told(emptiedAndLoaded(prepared())),
                told(Check.loaded(Calls.TEXT)), "mapByte");
        Calls.run("promise 3, nothing is kept", emptiedAndLoaded(prepared()), "undoable()=0 undo()=S restore(0)=S"
                + " restore(1)=S cleaned()=0 micAt(0,3)=1 micAt(1,3)=1 sourceAt(0,0,31)=0 parseError()=0"
                + " errorPosition()=-1 buffered()=0 save(1)=0 restore(0)=S restore(1)=0");
    }

    /** All that a text can have, loud and long. */
    private static final String RICH = "camera distance 200 step 3 samples 200 limit 9999;fade 7;filter 9 8 -7 6 -5"
            + ";shade 9 8 7 6 5 4 3 2 1 0 9 8;map -99 -99 9 12 12;wall 50 99;wall -50 98" + ";mic 5 6 9".repeat(12)
            + ";source noise 1 2 3 4 999 98 97 from 5".repeat(6) + ";zone 1 2 3 4".repeat(4) + ";off 0;off 1;off 5"
            + ";clock 0 9;clock 1 8;clock 2 7;clock 11 6";

    private static final String PLAIN = "camera distance 100 step 1 samples 32 limit 9999;mic 0 0 1;mic 75 0 1"
            + ";map 0 0 25 3 1;source square 0 0 0 0 10 16 0;source triangle 25 0 9 9 30 7 1";

    /** Nothing of the cameras before is left in what a text does not tell. */
    private static void loadsAfterLoads() {
        String[] others = {";zone 0 0 1 0", ";filter 1 -1", ";fade 50", ";shade 2", ";wall 100 50", ";clock 1 3",
                ";off 1",
            ";mic 5 5 5", ";source pulse 0 0 0 0 5 5 5 from 3", ""};
        for (String other : others) {
            String due = all(Check.loaded(PLAIN + other));
            for (int way = 0; way < 4; way++) {
                AcousticCamera x = new AcousticCamera();
                for (int i = 0; i < 1 + way % 3; i++) {
                    x.load(Check.put(x, RICH));
                }
                Calls.run("rich", x, "mute(1,1)=false setWeight(0,5)=9 moveSource(0,9,9)=" + Calls.answer(x,
                        "moveSource(0,9,9)") + " setVelocity(1,9,9)=" + Calls.answer(x, "setVelocity(1,9,9)"));
                Check.due("a rich one is cleaned", x.clean(100) >= 0, true);
                if (way == 3) {
                    int n = Check.put(x, RICH + ";off 9");
                    Check.noArgument("load of a spoiled one", () -> x.load(n));
                    Check.due("its error", x.parseError(), 2);
                }
                x.load(Check.put(x, PLAIN + other));
                same("way " + way + " of " + other, all(x), due);
            }
        }
    }

    private static String all(AcousticCamera x) {
        StringBuilder calls = new StringBuilder("mics() sources() columns() rows() samples() micAt(0,3) micAt(1,3)"
                + " micAt(2,3) isMuted(1) isOn(0) isOn(1) isOn(2) zonePower(0) zoneBest(0) zonePower(1)"
                + " sourceAt(1,0,31) sourceAt(0,0,31) peaks() best() bestPower() meanPower() contrast() path(4)"
                + " trackScore(4) movingPower(0,9,9) movingPower(2,0,0) power(0) power(1) power(2) window(0) spread(0)"
                + " cleaned() undoable() loudest(0) level(1) correlation(0,0,1) bestLag(0,1,31) pointPower(1,1,9)"
                + " bestIfOff(0) bestWithout(1) bestVelocity(1,9,1)");
        for (int t = 0; t < 32; t += 3) {
            for (int i = 0; i < 3; i++) {
                calls.append(" sample(").append(i).append(',').append(t).append(")"
                + " waveAt(").append(i).append(',').append(t)
                        .append(")");
            }
        }
        return answers(x, calls.toString());
    }

    private static AcousticCamera emptiedAndLoaded(AcousticCamera x) {
        x.load(emptied(x, Calls.TEXT));
        return x;
    }

    /** Empties the buffer by a load that fails, then puts a text there. */
    private static int emptied(AcousticCamera x, String text) {
        Check.noArgument("load(0)", () -> x.load(0));
        return Check.put(x, text);
    }

    private static void loadsThatFail() {
        String due = told(prepared());
        String[] spoiled = {"", "x", Calls.TEXT + ";mic 1 1 0", Calls.TEXT + ";map 0 0 1 1 1",
            Calls.TEXT + ";off 0;zone 2 2 2 2", "camera distance 100 step 1 samples 200 limit 1;mic 5 5 5",
            "camera distance 100 step 1 samples 200 limit 1;map 5 5 5 5 5", Calls.TEXT + ";filter 1 1 1 1 1 1",
            Calls.TEXT + ";wall 9 9;fade 9;clock 0 9;clock 1 9;shade 9 9 9;filter 9 9;source noise 9 9 9 9 9 9 9;off"
                + " 1;"};
        int[] codes = {1, 1, 2, 3, 2, 5, 5, 4, 1};
        for (int i = 0; i < spoiled.length; i++) {
            String text = spoiled[i];
            AcousticCamera x = prepared();
            int n = emptied(x, text);
            Check.noArgument("load of " + text, () -> x.load(n));
            Check.due("the code of " + text, x.parseError(), codes[i]);
            Check.due("the buffer after " + text, x.buffered(), 0);
            Check.noIndex("load(1)", () -> x.load(1));
            Check.noIndex("load(-1)", () -> x.load(-1));
            Check.due("the code of " + text + " stays", x.parseError(), codes[i]);
            same("after load of " + text, told(x), due, "parseError", "errorPosition", "buffered");
        }
    }

    private static void changesThatAlterNothing() {
        AcousticCamera x = Check.loaded(Calls.TEXT);
        Calls.run("a change, even if it is so already", x, "mute(0,0)=false undoable()=1 setWeight(0,1)=1 undoable()=2"
                + " setOn(0,1)=true undoable()=3 moveSource(0,0,0)=0 undoable()=4 setVelocity(0,0,0)=0 undoable()=5"
                + " clean(1)=0 undoable()=6 undo()=5 undo()=4 undo()=3 undo()=2 undo()=1 undo()=0 undo()=S");
        AcousticCamera y = Check.loaded(Calls.TEXT);
        Calls.run("recordings made anew, even if it is so already", y, "clean(100)=0 cleaned()=1 setOn(0,1)=true"
                + " cleaned()=0 sample(0,0)=10 clean(100)=0 clean(100)=0 cleaned()=2 moveSource(0,0,0)=0 cleaned()=0"
                + " sample(0,0)=10 clean(100)=0 cleaned()=1 setVelocity(0,0,0)=0 cleaned()=0 sample(0,0)=10 undo()=5"
                + " cleaned()=1 undo()=4 cleaned()=0 undo()=3 cleaned()=2 undo()=2 cleaned()=1 undo()=1 cleaned()=0"
                + " undo()=0 cleaned()=1 undo()=S cleaned()=1");
        Calls.run("mutes and weights leave the recordings", Check.loaded(Calls.TEXT), "clean(100)=0 mute(0,1)=false"
                + " setWeight(1,5)=1 cleaned()=1 mute(0,0)=true cleaned()=1");
    }

    private static void latestChanges() {
        AcousticCamera x = Check.loaded(Calls.TEXT);
        Calls.run("six changes", x, "setWeight(0,2)=1 setWeight(0,3)=2 setWeight(0,4)=3 setWeight(0,5)=4"
                + " setWeight(0,6)=5 undoable()=5 setWeight(0,7)=6 undoable()=6 undo()=5 undo()=4 undo()=3 undo()=2"
                + " undo()=1 undo()=0 micAt(0,3)=1 undo()=S micAt(0,3)=1");
        Calls.run("a seventh one", Check.loaded(Calls.TEXT), "setWeight(0,2)=1 setWeight(0,3)=2 setWeight(0,4)=3"
                + " setWeight(0,5)=4 setWeight(0,6)=5 setWeight(0,7)=6 setWeight(0,8)=7 undoable()=6 undo()=5"
                + " micAt(0,3)=7 undo()=4 micAt(0,3)=6 undo()=3 micAt(0,3)=5 undo()=2 micAt(0,3)=4 undo()=1"
                + " micAt(0,3)=3 undo()=0 micAt(0,3)=2 undo()=S micAt(0,3)=2 undoable()=0");
        AcousticCamera y = Check.loaded(Calls.TEXT);
        for (int i = 0; i < 60; i++) {
            Calls.run("many changes", y, "setWeight(1," + i % 7 + ")=" + (i == 0 ? 1 : (i - 1) % 7) + " undoable()="
                    + Math.min(i + 1, LATEST));
        }
        Calls.run("many changes, then undo and changes", y, "micAt(1,3)=3 undo()=5 micAt(1,3)=2 undo()=4 micAt(1,3)=1"
                + " setWeight(1,9)=1 undoable()=5 setWeight(1,8)=9 undoable()=6 mute(1,1)=false undoable()=6 undo()=5"
                + " isMuted(1)=false undo()=4 micAt(1,3)=9 undo()=3 micAt(1,3)=1 undo()=2 micAt(1,3)=0 undo()=1"
                + " micAt(1,3)=6 undo()=0 micAt(1,3)=5 undo()=S");
    }

    private static void sinceLoadOrRestore() {
        Calls.run("since restore", Check.loaded(Calls.TEXT), "setWeight(0,2)=1 save(0)=0 setWeight(0,3)=2 restore(1)=S"
                + " undoable()=2 restore(2)=X undoable()=2 restore(0)=0 undoable()=0 undo()=S micAt(0,3)=2"
                + " setWeight(0,4)=2 undoable()=1 undo()=0 micAt(0,3)=2 undo()=S");
        AcousticCamera x = Check.loaded(Calls.TEXT);
        Calls.run("since load", x, "setWeight(0,2)=1 setWeight(0,3)=2 load(0)=A undoable()=2 load(1)=X undoable()=2");
        int n = Check.put(x, Calls.TEXT);
        Calls.run("since load", x, "load(" + n + ")=6 undoable()=0 undo()=S micAt(0,3)=1 setWeight(0,4)=1 undo()=0"
                + " micAt(0,3)=1");
    }

    private static void undoEachKind() {
        String[] changes = {"mute(1,1)", "setWeight(1,0)", "setOn(0,0)", "moveSource(0,75,75)",
                "setVelocity(0,-999,999)",
            "clean(77)"};
        String before = answers(Check.loaded(Calls.TEXT), STATE);
        for (String change : changes) {
            AcousticCamera x = Check.loaded(Calls.TEXT);
            Calls.answer(x, change);
            Check.due(change + " changes the state", answers(x, STATE).equals(before), false);
            Calls.run("promise 62", x, "undoable()=1 undo()=0");
            Check.due(change + " is undone", answers(x, STATE), before);
            Calls.run("promise 62", x, "undo()=S undoable()=0");
            AcousticCamera y = Check.loaded(Calls.TEXT);
            y.save(1);
            Calls.answer(y, change);
            Calls.run("promise 65", y, "restore(1)=0");
            Check.due(change + " is restored", answers(y, STATE), before);
            Calls.answer(y, change);
            String after = answers(y, STATE);
            y.save(0);
            y.undo();
            Calls.run("promise 65", y, "restore(0)=" + y.save(0) + " undoable()=0");
            Check.due(change + " was undone before save", answers(y, STATE), before);
            Calls.answer(y, change);
            Check.due(change + " again", answers(y, STATE), after);
        }
    }

    private static void slots() {
        Calls.run("promises 64 and 65", Check.loaded(Calls.TEXT), "restore(0)=S restore(1)=S save(-1)=X save(2)=X"
                + " restore(0)=S save(0)=0 restore(1)=S restore(0)=0 restore(0)=0 setWeight(0,7)=1 save(1)=0"
                + " restore(0)=0 micAt(0,3)=1 restore(1)=0 micAt(0,3)=7 restore(1)=0 setWeight(0,8)=7 save(0)=0"
                + " restore(1)=0 micAt(0,3)=7 restore(0)=0 micAt(0,3)=8 undoable()=0 restore(-1)=X restore(2)=X"
                + " micAt(0,3)=8");
        Calls.run("promise 65, what is saved does not change with the state", Check.loaded(Calls.TEXT), "save(0)=0"
                + " clean(100)=0 moveSource(0,75,0)=1 setVelocity(0,9,9)=1 setOn(0,0)=true mute(1,1)=false"
                + " restore(0)=0 cleaned()=0 sourceAt(0,0,31)=0 isOn(0)=true isMuted(1)=false sample(0,0)=10"
                + " clean(100)=0 undo()=0 restore(0)=0 sample(0,0)=10 clean(50)=0 clean(50)=0 save(1)=0 cleaned()=2"
                + " setOn(0,1)=true cleaned()=0 restore(1)=0 cleaned()=2 sample(0,0)=-1");
        Calls.run("promises 64 and 65, the best cell", Check.loaded(Calls.TEXT), "moveSource(0,75,0)=1 save(0)=1"
                + " moveSource(0,0,0)=0 save(1)=0 restore(0)=1 best()=1 restore(1)=0 best()=0");
        AcousticCamera x = Check.loaded(Calls.TEXT);
        x.save(0);
        Calls.run("a load that fails leaves the slots", x, "load(0)=A restore(1)=S restore(0)=0");
    }

    private static void answersOfChanges() {
        Calls.run("promise 55", Check.loaded(Calls.TEXT), "mute(0,1)=false mute(0,1)=true mute(0,0)=true"
                + " mute(0,0)=false");
        Calls.run("promise 56", Check.loaded(Calls.TEXT), "setWeight(0,0)=1 setWeight(0,9)=0 setWeight(0,10)=A"
                + " setWeight(0,-1)=A setWeight(0,5)=9 micAt(0,3)=5");
        Calls.run("promise 57", Check.loaded(Calls.TEXT), "setOn(0,0)=true setOn(0,0)=false setOn(0,1)=false"
                + " setOn(0,1)=true");
        Calls.run("promise 58", Check.loaded(Calls.TEXT), "moveSource(0,75,0)=1 best()=1 moveSource(0,-2000,2000)=0"
                + " best()=0 sourceAt(0,0,0)=-2000 sourceAt(0,1,31)=2000 moveSource(0,150,75)=0 moveSource(0,2001,0)=A"
                + " moveSource(0,0,-2001)=A sourceAt(0,0,0)=150 best()=0");
        Calls.run("promise 59", Check.loaded(Calls.TEXT), "setVelocity(0,999,-999)=0 sourceAt(0,0,31)=309"
                + " sourceAt(0,1,31)=-309 setVelocity(0,1000,0)=A setVelocity(0,0,-1000)=A setVelocity(0,0,0)=0"
                + " sourceAt(0,0,31)=0");
        Calls.run("promise 60", Check.loaded(Calls.TEXT), "moveSource(0,75,0)=1 clean(100)=1 cleaned()=1 undoable()=2");
    }
}
