import java.lang.reflect.Method;
import java.util.Set;
import java.util.TreeSet;

/** Wrong inputs at every method: which exception is thrown, the first one listed if several apply, and no change. */
public final class WrongTest {
    public static void main(String[] args) {
        Set<String> met = new TreeSet<>();
        for (String call : Calls.WRONG.strip().split("\\s+")) {
            String name = Calls.nameOf(call);
            met.add(name);
            AcousticCamera bare = new AcousticCamera();
            AcousticCamera full = Check.loaded(Calls.TEXT);
            Check.due(call, Calls.answer(full, call), call.substring(call.length() - 1));
            Check.due(call + " changes nothing", full.undoable() + full.best() + full.sample(0, 0), 10);
            if (!Calls.ELSEWHERE.contains(name)) {
                Check.due(call + " without a camera", Calls.answer(bare, call), "S");
            }
        }
        for (String call : Calls.RIGHT.strip().split("\\s+")) {
            String answer = Calls.answer(Check.loaded(Calls.TEXT), call);
            Check.due(call + " throws", Calls.isThrown(answer) ? answer : "nothing", "nothing");
        }
        farthest();
        for (Method method : AcousticCamera.class.getMethods()) {
            boolean own = method.getDeclaringClass() == AcousticCamera.class;
            if (own && !Calls.ELSEWHERE.contains(method.getName()) && method.getExceptionTypes().length > 0) {
                String zeros = String.join(",", java.util.Collections.nCopies(method.getParameterCount(), "0"));
                String call = method.getName() + "(" + zeros + ") ";
                Check.due(call + "without a camera", Calls.answer(new AcousticCamera(), call), "S");
                boolean canBeWrong = method.getParameterCount() > 0 || method.getName().equals("undo");
                Check.due(call + "is met", met.contains(method.getName()), canBeWrong);
            }
        }
        Check.end();
    }

    /** Each number of a right call, made as small and as great as an int can be. */
    private static void farthest() {
        for (String call : (Calls.RIGHT.strip() + " mapByte(0) restore(0) load(0)").split("\\s+")) {
            String inside = call.substring(call.indexOf('(') + 1, call.indexOf(')'));
            String[] numbers = inside.isEmpty() ? new String[0] : inside.split(",");
            boolean lastIsFlag = Set.of("mute", "setOn").contains(Calls.nameOf(call));
            for (int i = 0; i < numbers.length - (lastIsFlag ? 1 : 0); i++) {
                for (int extreme : new int[] {Integer.MIN_VALUE, Integer.MAX_VALUE}) {
                    String[] spoiled = numbers.clone();
                    spoiled[i] = "" + extreme;
                    String far = Calls.nameOf(call) + "(" + String.join(",", spoiled) + ")";
                    String answer = Calls.answer(Check.loaded(Calls.TEXT), far);
                    Check.due(far + " answers " + answer, answer.matches("[XA]"), true);
                }
            }
        }
    }
}
