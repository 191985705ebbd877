import java.lang.reflect.InvocationTargetException;
import java.lang.reflect.Method;
import java.util.Arrays;
import java.util.Comparator;
import java.util.List;
import java.util.function.Function;
import java.util.function.Supplier;

/** Compares answers with those that are due, and looks at all that an object shows. */
final class Check {
    private static int right = 0;
    private static int wrong = 0;
    private static String test = "";

    private Check() {
    }

    /** The tests of a class: its methods whose names begin with the promise, or the paragraph of the terms. */
    static List<Method> testsOf(Class<?> tests) {
        return Arrays.stream(tests.getDeclaredMethods())
                .filter(method -> method.getName().matches("(promise[0-9][0-9]|terms)_.*"))
                .sorted(Comparator.comparing(Method::getName))
                .toList();
    }

    /** Runs each test of a class, also those behind one that fails. */
    static void runEach(Class<?> tests) throws IllegalAccessException {
        List<Method> found = testsOf(tests);
        for (Method method : found) {
            int before = right + wrong;
            test = method.getName() + ": ";
            try {
                method.invoke(null);
            } catch (InvocationTargetException e) {
                due("the test", "threw " + e.getCause(), "an end");
            }
            if (right + wrong == before) {
                due("the test", "nothing compared", "something compared");
            }
        }
        test = "";
        due("having tests in " + tests.getSimpleName(), !found.isEmpty(), true);
        end(tests.getSimpleName() + ", " + found.size() + " tests");
    }

    static void due(String what, Object got, Object want) {
        if (got.equals(want)) {
            right++;
            return;
        }
        wrong++;
        System.out.println(test + what + " answered " + got + ", due is " + want);
    }

    /**
     * A call that throws must throw just this exception and change nothing: what is seen then is what is seen
     * of an object made alike without that call. (Two objects for each way of looking, since one is used for
     * 512 calls only.)
     */
    static void refused(String what, Supplier<MotionPost> made, Class<? extends RuntimeException> due,
            Function<MotionPost, ?> call) {
        List<Function<MotionPost, String>> views =
                List.of(Check::seen, Check::seenSettingsTextAndSlots, Check::seenHistory);
        for (Function<MotionPost, String> view : views) {
            MotionPost post = made.get();
            due(what, answer(() -> call.apply(post)), "throws " + due.getSimpleName());
            due("what is seen after " + what, view.apply(post), view.apply(made.get()));
        }
    }

    /** A call that must be no change and alter nothing that can be seen. */
    static void altersNothing(String what, Supplier<MotionPost> made, Function<MotionPost, ?> call) {
        List<Function<MotionPost, String>> views =
                List.of(Check::seen, Check::seenSettingsTextAndSlots, Check::seenHistory);
        for (Function<MotionPost, String> view : views) {
            MotionPost post = made.get();
            call.apply(post);
            due("what is seen after " + what, view.apply(post), view.apply(made.get()));
        }
    }

    static String answer(Supplier<?> call) {
        try {
            return String.valueOf(call.get());
        } catch (RuntimeException e) {
            return "throws " + e.getClass().getSimpleName();
        }
    }

    /** All that the calls show which change nothing: the state, and what is no part of it. */
    static String seen(MotionPost post) {
        return seenState(post) + " undo " + post.undoCount() + " text " + post.textLength() + " " + post.textError();
    }

    private static String seenShortly(MotionPost post) {
        StringBuilder seen = new StringBuilder();
        for (int block = 0; block < 4; block++) {
            seen.append(post.lastKind(block)).append(' ').append(post.lastMove(block)).append(' ')
                    .append(post.bestMove(block)).append(' ');
        }
        return seen.append("| ").append(post.error()).append(' ').append(post.drift()).append(' ')
                .append(post.pictureCount()).append(' ').append(post.lostCount()).append(' ')
                .append(post.bitCount()).append(' ').append(post.coarsenessNext()).append(' ')
                .append(post.bitsNext()).append(" / ").toString();
    }

    /** What only changes show: both settings, what the text does, and what the slots hold. */
    private static String seenSettingsTextAndSlots(MotionPost post) {
        StringBuilder seen = new StringBuilder();
        seen.append(post.setBudget(4)).append(' ').append(post.setKeyDistance(20)).append(' ');
        seen.append(answer(() -> post.runText())).append(' ').append(seenShortly(post));
        for (int slot = 0; slot < 2; slot++) {
            int loaded = slot;
            seen.append(answer(() -> post.loadState(loaded))).append(' ').append(seenShortly(post));
        }
        return seen.toString();
    }

    /** The states that are recorded, each with its settings. */
    private static String seenHistory(MotionPost post) {
        StringBuilder seen = new StringBuilder();
        for (int left = post.undoCount(); left > 0; left--) {
            seen.append(post.undo()).append(' ').append(seenShortly(post));
            seen.append(post.setBudget(4)).append(' ').append(post.undo()).append(' ');
        }
        return seen.append(answer(() -> post.undo())).toString();
    }

    /** What the calls show of the state, which undo and loadState bring back. */
    static String seenState(MotionPost post) {
        StringBuilder seen = new StringBuilder();
        for (int pixel = 0; pixel < 64; pixel++) {
            seen.append(post.drawnAt(pixel)).append(' ').append(post.sentAt(pixel)).append(' ')
                    .append(post.receivedAt(pixel)).append(' ');
        }
        for (int block = 0; block < 4; block++) {
            seen.append("| ").append(post.lastKind(block)).append(' ').append(post.lastMove(block)).append(' ')
                    .append(post.bestMove(block)).append(' ');
        }
        return seen.append("| ").append(post.pictureCount()).append(' ').append(post.lostCount()).append(' ')
                .append(post.bitCount()).append(' ').append(post.isKeyNext()).append(' ')
                .append(post.coarsenessNext()).append(' ').append(post.bitsNext()).append(' ')
                .append(post.error()).append(' ').append(post.drift()).toString();
    }

    /** The number that appendText takes for up to 8 characters. */
    static long packed(String characters) {
        long number = 0;
        for (int i = 0; i < characters.length(); i++) {
            number = number << 8 | characters.charAt(i);
        }
        return number;
    }

    static void append(MotionPost post, String text) {
        for (int i = 0; i < text.length(); i += 8) {
            post.appendText(packed(text.substring(i, Math.min(i + 8, text.length()))));
        }
    }

    static int run(MotionPost post, String text) {
        append(post, text);
        return post.runText();
    }

    /** Sends so many pictures, by texts, since an object is used for 512 calls only. */
    static void sendMany(MotionPost post, int pictures) {
        for (int sent = 0; sent < pictures; sent += 40) {
            run(post, "s;".repeat(Math.min(40, pictures - sent) - 1) + "s");
        }
    }

    static void end(String test) {
        System.out.println(test + ": " + right + " answers as due, " + wrong + " not");
        if (wrong != 0) {
            System.exit(1);
        }
    }
}
