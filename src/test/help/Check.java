/** What the tests share: texts put into a camera, answers held against those that are due. */
public final class Check {
    private static int wrong = 0;

    private Check() { }

    public static void due(String call, Object got, Object want) {
        if (!got.equals(want)) {
            wrong++;
            System.out.println(call + " answered " + got + ", due is " + want);
        }
    }

    public static void dueThrow(String call, Class<?> want, Runnable run) {
        Object got = "nothing thrown";
        try {
            run.run();
        } catch (RuntimeException e) {
            got = e.getClass();
        }
        due(call, got, want);
    }

    public static void noCamera(String call, Runnable run) {
        dueThrow(call + " without a camera", IllegalStateException.class, run);
    }

    public static void noIndex(String call, Runnable run) {
        dueThrow(call, IndexOutOfBoundsException.class, run);
    }

    public static void noArgument(String call, Runnable run) {
        dueThrow(call, IllegalArgumentException.class, run);
    }

    /** Appends the text, filled up with blanks, and answers its own length. */
    public static int put(AcousticCamera camera, String text) {
        String padded = text + " ".repeat((20 - text.length() % 20) % 20);
        for (int at = 0; at < padded.length(); at += 20) {
            camera.append(word(padded, at), word(padded, at + 4), word(padded, at + 8), word(padded, at + 12),
                    word(padded, at + 16));
        }
        return text.length();
    }

    public static AcousticCamera loaded(String text) {
        AcousticCamera camera = new AcousticCamera();
        camera.load(put(camera, text));
        return camera;
    }

    private static int word(String text, int at) {
        return text.charAt(at) << 24 | text.charAt(at + 1) << 16 | text.charAt(at + 2) << 8 | text.charAt(at + 3);
    }

    public static void end() {
        System.out.println(wrong == 0 ? "all answers are as due" : wrong + " answers are not as due");
        System.exit(wrong == 0 ? 0 : 1);
    }
}
