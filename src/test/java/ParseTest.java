/** Promises 1 to 6: a new object, the input buffer, load, and the parse errors of section 6. */
public final class ParseTest {
    private static final String HEAD = "camera distance 100 step 1 samples 32 limit 9999";
    private static final String MIC = ";mic 0 0 1";
    private static final String MAP = ";map 0 0 1 3 2";
    private static final String SOURCE = ";source pulse 0 0 0 0 1 2 0";
    private static final String GOOD = HEAD + MIC + MAP;

    public static void main(String[] args) {
        newObject();
        buffer();
        loading();
        failedLoadKeeps();
        heads();
        tokens();
        bounds();
        repeated();
        tooMany();
        missing();
        smallestCode();
        Check.end();
    }

    private static void newObject() {
        AcousticCamera x = new AcousticCamera();
        Check.due("buffered()", x.buffered(), 0);
        Check.due("parseError()", x.parseError(), 0);
        Check.due("errorPosition()", x.errorPosition(), AcousticCamera.NONE);
        Check.due("mics()", x.mics(), 0);
        Check.due("columns()", x.columns(), 0);
        Check.due("rows()", x.rows(), 0);
        Check.due("sources()", x.sources(), 0);
        Check.due("samples()", x.samples(), 0);
        Check.due("undoable()", x.undoable(), 0);
        Check.noIndex("load(1)", () -> x.load(1));
    }

    private static void buffer() {
        AcousticCamera x = new AcousticCamera();
        for (int i = 1; i <= 50; i++) {
            Check.due("append " + i, x.append(-1, 0, 1, Integer.MIN_VALUE, Integer.MAX_VALUE), 20 * i);
        }
        Check.due("append 51", x.append(0, 0, 0, 0, 0), AcousticCamera.NONE);
        Check.due("buffered()", x.buffered(), 1000);
        Check.noIndex("load(1001)", () -> x.load(1001));
        Check.noIndex("load(-1)", () -> x.load(-1));
        Check.due("buffered()", x.buffered(), 1000);
        Check.noArgument("load(1000)", () -> x.load(1000));
        Check.due("buffered()", x.buffered(), 0);
        Check.due("errorPosition()", x.errorPosition(), 0);
        Check.due("append", x.append(0x63616d65, 0x72612064, 0x69737461, 0x6e636520, 0x31000000), 20);
        Check.noArgument("the most significant byte is the first one", () -> x.load(17));
        Check.due("parseError()", x.parseError(), 2);
        Check.due("errorPosition()", x.errorPosition(), 16);
    }

    private static void loading() {
        AcousticCamera x = new AcousticCamera();
        int n = Check.put(x, GOOD + ";shade 3;;;;;");
        Check.due("load of the first bytes", x.load(n - 5), 6);
        Check.due("parseError()", x.parseError(), 0);
        Check.due("errorPosition()", x.errorPosition(), AcousticCamera.NONE);
        Check.due("buffered()", x.buffered(), 0);
        Check.due("micAt(0, 3)", x.micAt(0, 3), 3);
        x.setWeight(0, 5);
        x.save(0);
        x.save(1);
        x.writeMap();
        Check.due("load of another text", x.load(Check.put(x, HEAD + MIC + MIC + ";map 5 6 7 1 1")), 1);
        Check.due("undoable()", x.undoable(), 0);
        Check.due("mics()", x.mics(), 2);
        Check.due("micAt(0, 3)", x.micAt(0, 3), 1);
        Check.due("cellAt(0, 1)", x.cellAt(0, 1), 6);
        Check.due("mapByte(0)", x.mapByte(0), (int) '0');
        Check.dueThrow("restore(0)", IllegalStateException.class, () -> x.restore(0));
        Check.dueThrow("restore(1)", IllegalStateException.class, () -> x.restore(1));
        Check.dueThrow("undo()", IllegalStateException.class, x::undo);
    }

    private static void failedLoadKeeps() {
        AcousticCamera x = Check.loaded(GOOD + SOURCE + ";zone 0 0 1 1");
        x.setWeight(0, 7);
        x.save(1);
        String spoiled = HEAD + MIC + MIC + ";map 9 9 9 9 9;source noise 9 9 9 9 9 9 9;fade 7;filter 5;zone 8 8 8 8;Z";
        Check.noArgument("load of a spoiled text", () -> x.load(Check.put(x, spoiled)));
        Check.due("parseError()", x.parseError(), 1);
        Check.due("errorPosition()", x.errorPosition(), spoiled.length() - 1);
        Check.noIndex("load(1)", () -> x.load(1));
        Check.due("parseError()", x.parseError(), 1);
        Check.due("errorPosition()", x.errorPosition(), spoiled.length() - 1);
        Check.due("mics()", x.mics(), 1);
        Check.due("columns()", x.columns(), 3);
        Check.due("micAt(0, 3)", x.micAt(0, 3), 7);
        Check.due("waveAt(0, 0)", x.waveAt(0, 0), 1);
        Check.due("sample(0, 0)", x.sample(0, 0), 1);
        Check.due("undoable()", x.undoable(), 1);
        Check.due("undo()", x.undo(), 0);
        Check.due("restore(1)", x.restore(1), 0);
        Check.due("micAt(0, 3)", x.micAt(0, 3), 7);
        Check.due("load", x.load(Check.put(x, GOOD)), 6);
        Check.due("parseError()", x.parseError(), 0);
    }

    private static void heads() {
        String[] words = GOOD.replace(";", " ; ").split(" +");
        for (int i = 0; i < 9; i++) {
            String before = String.join(" ", java.util.Arrays.copyOf(words, i));
            fails(before, "", 1, before.length());
            fails(before + " ", "zone", 1, before.length() + 1);
            fails(before + " ", "-", 1, before.length() + 1);
        }
        fails("", "", 1, 0);
        fails("     ", "", 1, 5);
        fails("camera distance ", "99", 2);
        fails("camera distance ", "5001", 2);
        fails("camera distance 5000 step ", "0", 2);
        fails("camera distance 5000 step ", "100", 2);
        fails("camera distance 5000 step 99 samples ", "31", 2);
        fails("camera distance 5000 step 99 samples ", "201", 2);
        fails("camera distance 5000 step 99 samples 200 limit ", "0", 2);
        fails("camera distance 5000 step 99 samples 200 limit ", "10000", 1);
        works("camera distance 5000 step 99 samples 200 limit 9999" + MIC + MAP);
        works("camera distance 0100 step 0001 samples 0032 limit 0001" + MIC + MAP);
        works("camera distance100step1samples32limit1;mic0 0 1;map0-0 1 1 1");
    }

    private static void tokens() {
        fails(GOOD + ";", "abcdefghi 1", 1);
        fails(GOOD + ";", "abcdefgh 1", 1);
        fails(GOOD + ";fade ", "00001", 1);
        works(GOOD + ";fade 0001");
        fails(GOOD, "\t;fade 1", 1);
        fails(GOOD, "\0", 1);
        fails(GOOD, "\u00ff", 1);
        fails(GOOD + ";", "Fade 1", 1);
        fails(GOOD + " ", "+", 1);
        fails(GOOD + ";wall ", "--1 1", 1, (GOOD + ";wall -").length());
        fails(GOOD + ";wall - ", "; 1", 1);
        works(GOOD + " ; wall  -  1 1  ");
        fails(GOOD + ";", "", 1);
        fails(GOOD + ";", ";", 1);
        fails(GOOD + ";", "7", 1);
        fails(GOOD + " ", "7", 1);
        fails(GOOD + " ", "fade 1", 1);
        fails(GOOD + ";fade ", "-1", 1);
        fails(GOOD + ";fade 1 ", "1", 1);
        fails(GOOD + ";fade 1 ", "-", 1);
        fails(GOOD + ";source ", "sine 0 0 0 0 1 2 0", 1);
        fails(GOOD + ";source pulse 0 0 0 0 1 2 0 ", "to 1", 1);
        fails(GOOD + ";source pulse 0 0 0 0 1 2 0 from ", ";", 1);
        fails(GOOD + ";source pulse 0 0 0 0 1 2 0 from 1 ", "from 1", 1);
        fails(GOOD + ";source pulse 0 0 0 0 ", "-1 2 0", 1);
        fails(GOOD + ";filter ", ";", 1);
        fails(GOOD + ";filter 1 ", "x", 1);
        fails(GOOD + ";filter 1 2 - ", "", 1);
        fails(GOOD + ";shade ", "", 1);
        fails(GOOD + ";shade ", "-1", 1);
        fails(GOOD + ";shade 1 ", "-1", 1);
        works(GOOD + SOURCE + " from 199" + SOURCE);
    }

    private static void bounds() {
        both(";mic ", "-501", "-500", " 0 1", 1);
        both(";mic ", "501", "500", " 0 1", 0);
        both(";mic 0 ", "-501", "-500", " 1", 1);
        both(";mic 0 ", "501", "500", " 1", 0);
        both(";mic 0 0 ", "0", "1", "", 0);
        both(";mic 0 0 ", "10", "9", "", 0);
        map("map ", "-1000", "-999", " 0 1 1 1", 1);
        map("map ", "1000", "999", " 0 1 1 1", 0);
        map("map 0 ", "1000", "999", " 1 1 1", 0);
        map("map 0 ", "-1000", "-999", " 1 1 1", 1);
        map("map 0 0 ", "0", "1", " 1 1", 0);
        map("map 0 0 ", "100", "99", " 1 1", 0);
        map("map 0 0 1 ", "0", "1", " 1", 0);
        map("map 0 0 1 ", "13", "12", " 1", 0);
        map("map 0 0 1 1 ", "0", "1", "", 0);
        map("map 0 0 1 1 ", "13", "12", "", 0);
        both(";source noise ", "-2001", "-2000", " 0 0 0 1 2 0", 1);
        both(";source noise ", "2001", "2000", " 0 0 0 1 2 0", 0);
        both(";source noise 0 ", "2001", "2000", " 0 0 1 2 0", 0);
        both(";source noise 0 ", "-2001", "-2000", " 0 0 1 2 0", 1);
        both(";source noise 0 0 ", "-1000", "-999", " 0 1 2 0", 1);
        both(";source noise 0 0 ", "1000", "999", " 0 1 2 0", 0);
        both(";source noise 0 0 0 ", "1000", "999", " 1 2 0", 0);
        both(";source noise 0 0 0 ", "-1000", "-999", " 1 2 0", 1);
        both(";source noise 0 0 0 0 ", "0", "1", " 2 0", 0);
        both(";source noise 0 0 0 0 ", "1000", "999", " 2 0", 0);
        both(";source noise 0 0 0 0 1 ", "1", "2", " 0", 0);
        both(";source noise 0 0 0 0 1 ", "100", "99", " 0", 0);
        both(";source noise 0 0 0 0 1 2 ", "100", "99", "", 0);
        both(";source noise 0 0 0 0 1 2 3 from ", "200", "199", "", 0);
        both(";wall ", "-2001", "-2000", " 1", 1);
        both(";wall ", "2001", "2000", " 1", 0);
        both(";wall 0 ", "0", "1", "", 0);
        both(";wall 0 ", "101", "100", "", 0);
        both(";fade ", "0", "1", "", 0);
        both(";fade ", "1000", "999", "", 0);
        both(";filter ", "-10", "-9", "", 1);
        both(";filter ", "10", "9", "", 0);
        both(";filter 1 2 3 4 ", "10", "9", "", 0);
        both(";clock ", "1", "0", " 1", 0);
        both(";clock 0 ", "0", "1", "", 0);
        both(";clock 0 ", "32", "31", "", 0);
        both(";shade ", "10", "9", "", 0);
        both(";shade 1 2 3 4 5 6 7 8 9 0 1 ", "10", "9", "", 0);
        both(SOURCE + ";off ", "1", "0", "", 0);
        both(";zone ", "3", "2", " 0 2 0", 0);
        both(";zone 0 ", "2", "1", " 0 1", 0);
        both(";zone 2 1 ", "1", "2", " 1", 0);
        both(";zone 0 0 ", "3", "2", " 0", 0);
        both(";zone 2 1 2 ", "0", "1", "", 0);
        both(";zone 2 1 2 ", "2", "1", "", 0);
        fails(HEAD + MIC + ";zone ", "0 0 0 0" + MAP, 2);
        fails(HEAD + ";clock ", "0 1" + MIC + MAP, 2);
        fails(HEAD + ";off ", "0" + MIC + MAP, 2);
    }

    private static void repeated() {
        fails(GOOD + ";", "map 0 0 1 1 1", 3);
        fails(GOOD + ";fade 1;", "fade 1", 3);
        fails(GOOD + ";filter 1;", "filter 1", 3);
        fails(GOOD + ";shade 1;", "shade 1", 3);
        fails(GOOD + ";shade 0;", "shade", 3);
        fails(GOOD + MIC + ";clock 1 1;clock 0 31;clock ", "1 2", 3);
        fails(GOOD + ";clock 0 1;clock ", "1 1", 2);
        fails(GOOD + SOURCE + SOURCE + ";off 1;off 0;off ", "1", 3);
        fails(GOOD + SOURCE + ";off 0;off ", "1", 2);
    }

    private static void tooMany() {
        works(GOOD + MIC.repeat(11));
        fails(GOOD + MIC.repeat(11) + ";", "mic 0 0 1", 4);
        works(GOOD + SOURCE.repeat(6));
        fails(GOOD + SOURCE.repeat(6) + ";", "source", 4);
        works(GOOD + ";wall 1 1".repeat(2));
        fails(GOOD + ";wall 1 1".repeat(2) + ";", "wall", 4);
        works(GOOD + ";zone 0 0 0 0".repeat(4));
        fails(GOOD + ";zone 0 0 0 0".repeat(4) + ";", "zone", 4);
        works(GOOD + ";filter 1 -2 3 -4 5");
        fails(GOOD + ";filter 1 -2 3 -4 5 ", "9", 4);
        fails(GOOD + ";filter 1 -2 3 -4 5 ", "-6", 4);
        fails(GOOD + ";filter 1 -2 3 -4 5 ", "- x", 4);
        works(GOOD + ";shade 1 2 3 4 5 6 7 8 9 0 1 2");
        fails(GOOD + ";shade 1 2 3 4 5 6 7 8 9 0 1 2 ", "9", 4);
    }

    private static void missing() {
        fails(HEAD, "", 5);
        fails(HEAD + MIC, "", 5);
        fails(HEAD + MAP + "  ", "", 5);
        fails(HEAD + MIC + SOURCE, "", 5);
        fails(HEAD + MIC + ";", "", 1);
        fails(HEAD + ";map 0 0", "", 1);
    }

    private static void smallestCode() {
        fails(GOOD + ";filter 1 -2 3 -4 5 ", "10", 2);
        fails(GOOD + ";filter 1 -2 3 -4 5 ", "-10", 4);
        fails(GOOD + ";filter 1 -2 3 -4 5 ", "10000", 1);
        fails(GOOD + ";shade 1 2 3 4 5 6 7 8 9 0 1 2 ", "10", 2);
        fails(GOOD + ";shade 1 2 3 4 5 6 7 8 9 0 1 2 ", "-1", 1);
    }

    private static void both(String line, String bad, String good, String rest, int digits) {
        fails(GOOD + line, bad + rest, 2, (GOOD + line).length() + digits);
        works(GOOD + line + good + rest);
    }

    private static void map(String line, String bad, String good, String rest, int digits) {
        fails(HEAD + MIC + ";" + line, bad + rest, 2, (HEAD + MIC + ";" + line).length() + digits);
        works(HEAD + MIC + ";" + line + good + rest);
    }

    private static void works(String text) {
        AcousticCamera x = new AcousticCamera();
        int code = 0;
        try {
            x.load(Check.put(x, text));
        } catch (IllegalArgumentException e) {
            code = x.parseError();
        }
        Check.due("the error of " + text, code, 0);
    }

    private static void fails(String before, String token, int code) {
        fails(before, token, code, before.length());
    }

    private static void fails(String before, String token, int code, int position) {
        AcousticCamera x = new AcousticCamera();
        String text = before + token;
        Check.noArgument("load of " + text, () -> x.load(Check.put(x, text)));
        Check.due("the code of " + text, x.parseError(), code);
        Check.due("the position of " + text, x.errorPosition(), position);
    }
}
