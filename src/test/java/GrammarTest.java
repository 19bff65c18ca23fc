import java.util.ArrayList;
import java.util.List;

/**
 * Section 6 made into texts from a table of the lines: each bound of each number just inside and just outside it, and
 * each error code at each place of each line that can have it, with its position.
 */
public final class GrammarTest {
    private static final String HEAD = "camera distance 100 step 1 samples 32 limit 9999";

    /** What may stand before a line, then the line: w a wave, s a signed number, n another one, with their bounds. */
    private static final String[][] LINES = {
        {"", "camera distance n100:5000 step n1:99 samples n32:200 limit n1:9999", ";mic 0 0 1;map 0 0 1 1 1"},
        {HEAD, "; mic s-500:500 s-500:500 n1:9", ";map 0 0 1 1 1"},
        {HEAD + ";mic 0 0 1", "; map s-999:999 s-999:999 n1:99 n1:12 n1:12", ""},
        {HEAD + ";mic 0 0 1", "; source w s-2000:2000 s-2000:2000 s-999:999 s-999:999 n1:999 n2:99 n0:99",
            ";map 0 0 1 1 1"},
        {HEAD + ";mic 0 0 1", "; source w s-2000:2000 s-2000:2000 s-999:999 s-999:999 n1:999 n2:99 n0:99 from n0:199",
            ";map 0 0 1 1 1"},
        {HEAD + ";mic 0 0 1", "; wall s-2000:2000 n1:100", ";map 0 0 1 1 1"},
        {HEAD + ";mic 0 0 1", "; fade n1:999", ";map 0 0 1 1 1"},
        {HEAD + ";mic 0 0 1", "; filter s-9:9 s-9:9 s-9:9 s-9:9 s-9:9", ";map 0 0 1 1 1"},
        {HEAD + ";mic 0 0 1;mic 0 0 1;mic 0 0 1", "; clock n0:2 n1:31", ";map 0 0 1 1 1"},
        {HEAD + ";mic 0 0 1;map 0 0 1 3 2", "; zone n0:2 n0:1 2 1", ""},
        {HEAD + ";mic 0 0 1;map 0 0 1 3 2", "; zone 0 0 n0:2 n0:1", ""},
        {HEAD + ";mic 0 0 1;map 0 0 1 3 2", "; zone 1 1 n1:2 n1:1", ""},
        {HEAD + ";mic 0 0 1;map 0 0 1 12 12", "; zone n0:11 n0:11 n11:11 n11:11", ""},
        {HEAD + ";mic 0 0 1;map 0 0 1 12 12", "; zone 5 6 n5:11 n6:11", ""},
        {HEAD + ";mic 0 0 1", "; shade n0:9 n0:9 n0:9 n0:9 n0:9 n0:9 n0:9 n0:9 n0:9 n0:9 n0:9 n0:9",
            ";map 0 0 1 1 1"},
        {HEAD + ";mic 0 0 1;source noise 0 0 0 0 1 2 0;source noise 0 0 0 0 1 2 0", "; off n0:1", ";map 0 0 1 1 1"},
    };

    /** Lines that may end after so many tokens already, the semicolon being the first one. */
    private static int shortest(String line) {
        if (line.contains(" from ")) {
            return line.split(" ").length - 2;
        }
        return line.contains("filter") || line.contains("shade") ? 3 : line.split(" ").length;
    }

    public static void main(String[] args) {
        for (String[] line : LINES) {
            String[] tokens = line[1].split(" ");
            for (int i = 0; i < tokens.length; i++) {
                inside(line, tokens, i);
                outside(line, tokens, i);
                notAllowed(line, tokens, i);
                misspelt(line, tokens, i);
                cutOff(line, tokens, i);
            }
            behind(line, tokens);
        }
        waves();
        twice();
        tooMany();
        missing();
        positions();
        wholeBuffer();
        Check.end();
    }

    private static boolean isNumber(String token) {
        return token.matches("[sn].*:.*");
    }

    private static int bound(String token, int which) {
        return Integer.parseInt(token.substring(1).split(":")[which]);
    }

    private static String plain(String token) {
        return isNumber(token) ? "" + bound(token, 1) : token.equals("w") ? "pulse" : token;
    }

    /** The tokens before the given place, and what stands before the line. */
    private static String before(String[] line, String[] tokens, int place) {
        StringBuilder text = new StringBuilder(line[0]);
        for (int i = 0; i < place; i++) {
            text.append(i == 0 && line[0].isEmpty() ? "" : " ").append(plain(tokens[i]));
        }
        return place == 0 && line[0].isEmpty() ? "" : text + " ";
    }

    private static String after(String[] line, String[] tokens, int place) {
        StringBuilder text = new StringBuilder();
        for (int i = place + 1; i < tokens.length; i++) {
            text.append(" ").append(plain(tokens[i]));
        }
        return text + line[2];
    }

    private static void inside(String[] line, String[] tokens, int place) {
        if (isNumber(tokens[place])) {
            for (int which = 0; which < 2; which++) {
                String before = before(line, tokens, place);
                String after = after(line, tokens, place);
                int bound = bound(tokens[place], which);
                works(before + bound + after);
                works(before + (bound < 0 ? "- " : "") + "0".repeat(4 - (Math.abs(bound) + "").length())
                        + Math.abs(bound) + after);
            }
        }
    }

    private static void outside(String[] line, String[] tokens, int place) {
        if (!isNumber(tokens[place])) {
            return;
        }
        String before = before(line, tokens, place);
        String after = after(line, tokens, place);
        int least = bound(tokens[place], 0);
        int most = bound(tokens[place], 1);
        if (least > 0) {
            fails(before, (least - 1) + after, 2, 0);
            fails(before, "0" + after, 2, 0);
        }
        if (least < 0) {
            fails(before, (least - 1) + after, 2, 1);
            fails(before, "-   " + (1 - least) + after, 2, 4);
            fails(before, "-9999" + after, 2, 1);
            works(before + "-0" + after);
        }
        if (most < 9999) {
            fails(before, (most + 1) + after, 2, 0);
            fails(before, "9999" + after, 2, 0);
        }
        fails(before, "00001" + after, 1, 0);
        fails(before, "10000" + after, 1, 0);
    }

    /** A token of each other kind in place of the one that the grammar wants. */
    private static void notAllowed(String[] line, String[] tokens, int place) {
        String before = before(line, tokens, place);
        String after = after(line, tokens, place);
        boolean number = isNumber(tokens[place]) || tokens[place].matches("[0-9]");
        boolean signed = number && tokens[place].startsWith("s");
        boolean mayEnd = place >= shortest(line[1]);
        if (!number) {
            fails(before, "0" + after, 1, 0);
            fails(before, "5" + after, 1, 0);
        }
        if (!signed) {
            fails(before, "-" + after, 1, 0);
            fails(before, "-1" + after, 1, 0);
        } else {
            fails(before, "- -1" + after, 1, 2);
            fails(before, "-x" + after, 1, 1);
            fails(before, "-;" + after, 1, 1);
            fails(before, "-12345" + after, 1, 1);
            fails(before, "-", 1, 1);
            fails(before, "-  ", 1, 3);
        }
        if (!mayEnd && place > 0) {
            fails(before, ";" + after, 1, 0);
        }
        for (String wrong : new String[] {"x", "abcdefgh", "abcdefghi", "limits", "minus", "A", "\t", "+1", "\0",
                "."}) {
            fails(before, wrong + after, 1, 0);
        }
        fails(before, (char) 128 + after, 1, 0);
        fails(before, (char) 255 + after, 1, 0);
    }

    /** A word with a letter changed, left out or put in. */
    private static void misspelt(String[] line, String[] tokens, int place) {
        if (!tokens[place].matches("[a-z]{3,}")) {
            return;
        }
        String word = tokens[place];
        String before = before(line, tokens, place);
        String after = after(line, tokens, place);
        for (int i = 0; i < word.length(); i++) {
            char other = word.charAt(i) == 'z' ? 'a' : 'z';
            fails(before, word.substring(0, i) + other + word.substring(i + 1) + after, 1, 0);
            fails(before, word.substring(0, i) + word.substring(i + 1) + after, 1, 0);
            fails(before, word.substring(0, i) + other + word.substring(i) + after, 1, 0);
            fails(before, word.substring(0, i) + Character.toUpperCase(word.charAt(i)) + word.substring(i + 1) + after,
                    1, 0);
        }
        fails(before, word + "z" + after, 1, 0);
    }

    private static void cutOff(String[] line, String[] tokens, int place) {
        String before = before(line, tokens, place);
        // the end stands in place of the token
        if (place < shortest(line[1]) && place > 0) {
            fails(before, "", 1, 0);
            fails(before.stripTrailing(), "", 1, 0);
            fails(before + "   ", "", 1, 0);
        }
    }

    /** What a complete line goes on with. */
    private static void behind(String[] line, String[] tokens) {
        String whole = before(line, tokens, tokens.length);
        boolean goesOn = line[1].contains("filter") || line[1].contains("shade");
        fails(whole, "x" + line[2], 1, 0);
        fails(whole, "mic 0 0 1" + line[2], 1, 0);
        fails(whole, "," + line[2], 1, 0);
        if (!goesOn) {
            fails(whole, "0" + line[2], 1, 0);
        }
        if (!line[1].contains("filter")) {
            fails(whole, "-" + line[2], 1, 0);
        }
        works(whole.stripTrailing() + line[2]);
        works(whole + "  " + line[2] + " ");
        fails(whole + line[2], ";", 1, 1);
        fails(whole + line[2] + ";", ";", 1, 0);
    }

    private static void waves() {
        String start = HEAD + ";mic 0 0 1;map 0 0 1 1 1;source ";
        for (String wave : List.of("square", "triangle", "pulse", "noise")) {
            works(start + wave + " 0 0 0 0 1 2 0");
            works(start + wave + "0 0 0 0 1 2 0from0");
        }
        for (String wrong : List.of("sine", "squares", "nois", "from", "pulsepul", "triangles")) {
            fails(start, wrong + " 0 0 0 0 1 2 0", 1, 0);
        }
        fails(start + "square 0 0 0 0 1 2 0 ", "fro 1", 1, 0);
        fails(start + "square 0 0 0 0 1 2 0 ", "fromm 1", 1, 0);
        fails(start + "square 0 0 0 0 1 2 0 from 0 ", "from 0", 1, 0);
    }

    private static void twice() {
        String start = HEAD + ";mic 0 0 1;mic 0 0 1;source noise 0 0 0 0 1 2 0;source noise 0 0 0 0 1 2 0";
        for (String once : List.of("map 0 0 1 1 1", "fade 1", "filter 0", "shade 0")) {
            fails(start + ";" + once + " ; ", once, 3, 0);
            fails(start + ";" + once + " ; ", once.substring(0, once.indexOf(' ')), 3, 0);
            fails(start + ";" + once + ";off 0;", once.substring(0, once.indexOf(' ')) + " x", 3, 0);
            fails(start + ";" + once + ";", "a" + once, 1, 0);
        }
        fails(start + ";clock 0 1;clock ", "0 2", 3, 0);
        fails(start + ";clock 0 1;clock ", "000 x", 3, 0);
        fails(start + ";clock 0 31;clock 1 31;clock ", "1 1", 3, 0);
        fails(start + ";clock 1 1;clock ", "2 1", 2, 0);
        fails(start + ";clock 1 1;clock ", "- 1", 1, 0);
        works(start + ";clock 1 1;clock 0 1;map 0 0 1 1 1");
        fails(start + ";off 0;off ", "0", 3, 0);
        fails(start + ";off 1;off 0;off ", "0001 x", 3, 0);
        fails(start + ";off 1;off ", "2", 2, 0);
        works(start + ";off 1;off 0;map 0 0 1 1 1");
        fails(start + ";clock ", "2 1;mic 0 0 1", 2, 0);
        fails(start + ";off ", "2;source noise 0 0 0 0 1 2 0", 2, 0);
        fails(start + ";zone ", "0 0 0 0;map 0 0 1 1 1", 2, 0);
        fails(start + ";zone ", "x", 1, 0);
        fails(start + ";zone ", "9999 0 0 0", 2, 0);
    }

    private static void tooMany() {
        String start = HEAD + ";mic 0 0 1;map 0 0 1 1 1";
        many(start, ";source noise 0 0 0 0 1 2 0", 6, ";source", 4);
        many(start, ";wall 0 1", 2, ";wall", 4);
        many(start, ";zone 0 0 0 0", 4, ";zone", 4);
        many(HEAD + ";map 0 0 1 1 1", ";mic 0 0 1", 12, ";mic", 4);
        many(start, ";zone 0 0 0 0", 4, ";wall", 0);
        String filter = start + ";filter 9 - 9 -0 0 -9";
        works(filter);
        for (String sixth : List.of("0", "9", "0009", "0 x", "-0", "-9", "- 9", "-10", "-9999", "-12345")) {
            fails(filter + " ", sixth, 4, 0);
        }
        for (String sixth : List.of("10", "9999", "0010")) {
            fails(filter + " ", sixth, 2, 0);
        }
        for (String sixth : List.of("10000", "x", "abcdefghi", "+", "from")) {
            fails(filter + " ", sixth, 1, 0);
        }
        String shade = start + ";shade 0 9 0 9 0 9 0 9 0 9 0 9";
        works(shade);
        for (String last : List.of("0", "9", "0009", "0 x")) {
            fails(shade + " ", last, 4, 0);
        }
        for (String last : List.of("10", "9999")) {
            fails(shade + " ", last, 2, 0);
        }
        for (String last : List.of("10000", "-0", "x", "-10")) {
            fails(shade + " ", last, 1, 0);
        }
    }

    /** The most lines, then the first word of one more: of this kind, or (code 0) of one that may stand there. */
    private static void many(String start, String line, int most, String more, int code) {
        works(start + line.repeat(most));
        if (code > 0) {
            fails(start + line.repeat(most) + ";", more.substring(1) + " x", code, 0);
            fails(start + line.repeat(most) + "; ", more.substring(1), code, 0);
        } else {
            fails(start + line.repeat(most) + more + " ", "x", 1, 0);
        }
    }

    private static void missing() {
        String others = ";source noise 0 0 0 0 1 2 0;wall 0 1;fade 1;filter 1;shade 1;off 0";
        for (String end : List.of("", " ", "      ")) {
            fails(HEAD + end, "", 5, 0);
            fails(HEAD + ";mic 0 0 1" + end, "", 5, 0);
            fails(HEAD + ";map 0 0 1 1 1" + end, "", 5, 0);
            fails(HEAD + others + end, "", 5, 0);
            fails(HEAD + ";mic 0 0 1" + others + end, "", 5, 0);
            fails(HEAD + ";map 0 0 1 1 1" + others + end, "", 5, 0);
            fails(HEAD + ";" + end, "", 1, 0);
            fails(HEAD + ";map 0 0 1 1 1;" + end, "", 1, 0);
        }
    }

    /** Blanks only separate tokens, and stand in the position. */
    private static void positions() {
        fails("   ", "x", 1, 0);
        fails("   camera   ", "x", 1, 0);
        fails("camera distance 100 step 1 samples 32 limit ", "0;mic", 2, 0);
        fails("camera distance 100 step 1 samples 32 limit 1", "limit", 1, 0);
        fails("cam", "", 1, -3);
        fails("", "cameras distance", 1, 0);
        fails("", "cameradis tance", 1, 0);
        fails("camera ", "distances 100", 1, 0);
        fails(HEAD + ";mic 0 0 1;map 0 0 1 1 1 ; ", "microphone 0 0 1", 1, 0);
        fails(HEAD + ";mic 0 0 1;map 0 0 1 1 1 ; ", "mi c 0 0 1", 1, 0);
        fails(HEAD + ";mic 0 ", "- 5 0 1;map 0 0 1 1 1", 2, 4);
        works(HEAD + ";mic0-0 1;map-0-0 1 1 1");
        works("camera distance100step1samples32limit9999;mic0 0 1;map0 0 1 1 1");
    }

    /** Only the first n bytes are parsed: the rest may be anything, and 1000 bytes may be parsed. */
    private static void wholeBuffer() {
        String text = HEAD + ";mic 0 0 1;map 0 0 1 1 1";
        AcousticCamera x = new AcousticCamera();
        int n = Check.put(x, text + "2;Z");
        Check.due("load ends within a number", x.load(n - 3), 1);
        Check.due("columns()", x.columns(), 1);
        Check.put(x, text + "2;Z");
        Check.due("load ends behind the number", x.load(n - 2), 12);
        Check.put(x, text + ";fader 9");
        Check.noArgument("load ends within a word", () -> x.load(text.length() + 5));
        Check.due("the code", x.parseError(), 1);
        Check.due("the position", x.errorPosition(), text.length() + 5);
        List<String> full = new ArrayList<>(List.of(text + " ".repeat(1000 - text.length()),
                text + " ".repeat(1000 - text.length() - 8) + ";wall 1 "));
        Check.put(x, full.get(0));
        Check.due("load(1000)", x.load(1000), 1);
        Check.put(x, full.get(1));
        Check.noArgument("load(1000) of a line that is not complete", () -> x.load(1000));
        Check.due("the position at the end of a full buffer", x.errorPosition(), 1000);
        Check.put(x, full.get(0).substring(0, 999) + "x");
        Check.noArgument("load(1000) with an error at the last byte", () -> x.load(1000));
        Check.due("the position of the last byte", x.errorPosition(), 999);
        Check.put(x, full.get(0).substring(0, 999) + "x");
        Check.due("load(999)", x.load(999), 1);
    }

    private static void works(String text) {
        AcousticCamera x = new AcousticCamera();
        int code = 0;
        try {
            x.load(Check.put(x, text));
        } catch (IllegalArgumentException e) {
            code = x.parseError();
        }
        Check.due("the error of " + text + " (position " + x.errorPosition() + ")", code, 0);
        Check.due("the position of no error", x.errorPosition(), AcousticCamera.NONE);
    }

    /** The token at the position so many bytes behind the beginning has the error. */
    private static void fails(String before, String rest, int code, int behind) {
        AcousticCamera x = new AcousticCamera();
        String text = before + rest;
        Check.noArgument("load of " + text, () -> x.load(Check.put(x, text)));
        Check.due("the code of " + text, x.parseError(), code);
        Check.due("the position of " + text, x.errorPosition(), before.length() + behind);
        Check.due("the buffer after " + text, x.buffered(), 0);
    }
}
