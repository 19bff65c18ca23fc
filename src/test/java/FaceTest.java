import java.lang.reflect.Field;
import java.lang.reflect.Method;
import java.lang.reflect.Modifier;
import java.util.Arrays;
import java.util.List;
import java.util.Set;
import java.util.TreeSet;
import java.util.stream.Collectors;

/** The public face: the members that the document lists, with their exceptions in its order, and no others. */
public final class FaceTest {
    /** Name, arguments as letters (i int, z boolean), answer (i int, j long, z boolean, f float), exceptions. */
    private static final String FACE = """
            append iiiii i -
            load i i XA
            parseError - i -
            errorPosition - i -
            buffered - i -
            mics - i -
            micAt ii i SXA
            isMuted i z SX
            columns - i -
            rows - i -
            cellAt ii i SXA
            sources - i -
            sourceAt iii i SXA
            isOn i z SX
            waveAt ii i SXA
            samples - i -
            delay ii i SX
            delayTo iii i SXA
            spread i i SX
            window i i SX
            sample ii i SXA
            beam ii i SXA
            power i j SX
            powerAt ii j SA
            best - i S
            bestPower - j S
            meanPower - j S
            peaks - i S
            peakAt i i SX
            isPeak i z SX
            zonePower i j SX
            zoneBest i i SX
            contrast - f S
            alias iii i SXA
            isAlias iii z SXA
            aliases ii i SA
            blockPower iii j SXA
            blockBest ii i SA
            path i i SA
            trackScore i j SA
            trackCell ii i SXA
            movingPower iii j SXA
            bestVelocity iii i SXA
            correlation iii j SXA
            bestLag iii i SXA
            level i j SX
            loudest i i SX
            writeMap - i S
            mapByte i i X
            pointBest ii i SXA
            pointPower iii j SXA
            bestWithout i i SX
            bestIfOff i i SX
            mute iz z SX
            setWeight ii i SXA
            setOn iz z SX
            moveSource iii i SXA
            setVelocity iii i SXA
            clean i i SA
            cleaned - i S
            undo - i S
            undoable - i -
            save i i SX
            restore i i XS
            """;

    public static void main(String[] args) {
        Class<?> face = AcousticCamera.class;
        Check.due("modifiers", face.getModifiers(), Modifier.PUBLIC | Modifier.FINAL);
        Check.due("constructors", Arrays.toString(face.getDeclaredConstructors()),
                "[public AcousticCamera()]");
        Set<String> fields = Arrays.stream(face.getDeclaredFields()).filter(FaceTest::isSeen)
                .map(Field::toString).collect(Collectors.toSet());
        Check.due("fields", fields, Set.of("public static final int AcousticCamera.NONE"));
        Check.due("NONE", AcousticCamera.NONE, -1);
        Set<String> methods = Arrays.stream(face.getDeclaredMethods()).filter(method -> isSeen(method))
                .map(FaceTest::line).collect(Collectors.toCollection(TreeSet::new));
        Check.due("methods", methods, new TreeSet<>(List.of(FACE.strip().split("\n"))));
        privateNames(face);
        for (Class<?> inside : face.getDeclaredClasses()) {
            Check.due(inside + " is static", Modifier.isStatic(inside.getModifiers()), true);
            Check.due(inside + " is not seen", (inside.getModifiers() & (Modifier.PUBLIC | Modifier.PROTECTED)), 0);
            privateNames(inside);
        }
        Check.end();
    }

    private static void privateNames(Class<?> type) {
        Set<String> seen = Arrays.stream(FACE.split("\n")).map(line -> line.split(" ")[0]).collect(Collectors.toSet());
        for (Method method : type.getDeclaredMethods()) {
            boolean ofFace = type == AcousticCamera.class && Modifier.isPublic(method.getModifiers());
            Check.due(method + " bears a name of the face", !ofFace && seen.contains(method.getName()), false);
        }
    }

    private static boolean isSeen(java.lang.reflect.Member member) {
        return !Modifier.isPrivate(member.getModifiers());
    }

    private static String line(Method method) {
        String arguments = letters(method.getParameterTypes());
        String exceptions = letters(method.getExceptionTypes());
        return method.getName() + " " + arguments + " " + letters(method.getReturnType()) + " " + exceptions;
    }

    private static String letters(Class<?>... types) {
        StringBuilder letters = new StringBuilder();
        for (Class<?> type : types) {
            letters.append(switch (type.getSimpleName()) {
                case "int" -> "i";
                case "long" -> "j";
                case "boolean" -> "z";
                case "float" -> "f";
                case "IllegalStateException" -> "S";
                case "IndexOutOfBoundsException" -> "X";
                case "IllegalArgumentException" -> "A";
                default -> "?";
            });
        }
        return letters.length() == 0 ? "-" : letters.toString();
    }
}
