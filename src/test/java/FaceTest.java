import java.lang.reflect.Constructor;
import java.lang.reflect.Field;
import java.lang.reflect.Method;
import java.lang.reflect.Modifier;
import java.util.Arrays;
import java.util.Set;
import java.util.TreeSet;

/** The public face: just what the document lists, and nothing else that is not private. */
public final class FaceTest {
    private static final String[] METHODS = {
        "int draw(int,int) IndexOutOfBoundsException IllegalArgumentException",
        "int fill(int,int,int,int) IndexOutOfBoundsException IllegalArgumentException",
        "int scroll(int,int) IllegalArgumentException",
        "int send(boolean) IllegalStateException",
        "int setBudget(int) IllegalArgumentException",
        "int setKeyDistance(int) IllegalArgumentException",
        "int drawnAt(int) IndexOutOfBoundsException",
        "int sentAt(int) IndexOutOfBoundsException",
        "int receivedAt(int) IndexOutOfBoundsException",
        "int error()",
        "int drift()",
        "int distance(int,int) IndexOutOfBoundsException",
        "int bestMove(int) IndexOutOfBoundsException",
        "int bestMoveByStopping(int) IndexOutOfBoundsException",
        "int equalMoves(int) IndexOutOfBoundsException",
        "boolean isKeyNext()",
        "int kindWith(int,int) IndexOutOfBoundsException IllegalArgumentException",
        "int bitsWith(int,int) IndexOutOfBoundsException IllegalArgumentException",
        "int bitsByWriting(int,int) IndexOutOfBoundsException IllegalArgumentException",
        "int coarsenessNext()",
        "int bitsNext()",
        "int pictureCount()",
        "int lostCount()",
        "int bitCount()",
        "int lastKind(int) IndexOutOfBoundsException",
        "int lastMove(int) IndexOutOfBoundsException",
        "int appendText(long) IllegalArgumentException IllegalStateException",
        "int clearText()",
        "int textLength()",
        "int textError()",
        "int runText() IllegalStateException",
        "int undo() IllegalStateException",
        "int undoCount()",
        "int saveState(int) IndexOutOfBoundsException",
        "int loadState(int) IndexOutOfBoundsException IllegalStateException"
    };

    public static void main(String[] args) {
        Check.due("face: public and final", Modifier.toString(MotionPost.class.getModifiers()), "public final");
        methods();
        constructors();
        constants();
        for (Class<?> inside : MotionPost.class.getDeclaredClasses()) {
            int modifiers = inside.getModifiers();
            Check.due("face: " + inside + " is static", Modifier.isStatic(modifiers), true);
            Check.due("face: " + inside + " is hidden",
                    Modifier.isPublic(modifiers) || Modifier.isProtected(modifiers), false);
        }
        Check.end("FaceTest");
    }

    private static void methods() {
        Set<String> got = new TreeSet<>();
        Set<String> hidden = new TreeSet<>();
        Set<String> shown = new TreeSet<>();
        for (Method method : MotionPost.class.getDeclaredMethods()) {
            if (Modifier.isPrivate(method.getModifiers())) {
                hidden.add(method.getName());
                continue;
            }
            Check.due("face: " + method, Modifier.toString(method.getModifiers()), "public");
            shown.add(method.getName());
            got.add(signature(method));
        }
        Check.due("face: methods", got, new TreeSet<>(Arrays.asList(METHODS)));
        for (Class<?> inside : MotionPost.class.getDeclaredClasses()) {
            for (Method method : inside.getDeclaredMethods()) {
                hidden.add(method.getName());
            }
        }
        hidden.retainAll(shown);
        Check.due("face: hidden methods with names of public ones", hidden, new TreeSet<String>());
    }

    private static String signature(Method method) {
        StringBuilder signature = new StringBuilder();
        signature.append(method.getReturnType().getSimpleName()).append(' ').append(method.getName()).append('(');
        String comma = "";
        for (Class<?> parameter : method.getParameterTypes()) {
            signature.append(comma).append(parameter.getSimpleName());
            comma = ",";
        }
        signature.append(')');
        for (Class<?> thrown : method.getExceptionTypes()) {
            signature.append(' ').append(thrown.getSimpleName());
        }
        return signature.toString();
    }

    private static void constructors() {
        Constructor<?>[] constructors = MotionPost.class.getDeclaredConstructors();
        Check.due("face: constructors", constructors.length, 1);
        Check.due("face: constructor", constructors[0].toString(), "public MotionPost()");
    }

    private static void constants() {
        Set<String> got = new TreeSet<>();
        for (Field field : MotionPost.class.getDeclaredFields()) {
            if (!Modifier.isPrivate(field.getModifiers())) {
                got.add(Modifier.toString(field.getModifiers()) + " " + field.getType() + " " + field.getName());
            }
        }
        Check.due("face: constants", got, new TreeSet<>(Arrays.asList("public static final int NONE",
                "public static final int RAW", "public static final int STILL", "public static final int MOVED")));
        Check.due("NONE", MotionPost.NONE, -1);
        Check.due("RAW", MotionPost.RAW, 0);
        Check.due("STILL", MotionPost.STILL, 1);
        Check.due("MOVED", MotionPost.MOVED, 2);
    }
}
