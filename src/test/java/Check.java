import java.util.function.Function;
import java.util.function.Supplier;

/** Compares answers with those that are due, and looks at all that an object shows. */
final class Check {
    private static int right = 0;
    private static int wrong = 0;

    private Check() {
    }

    static void due(String what, Object got, Object want) {
        if (got.equals(want)) {
            right++;
            return;
        }
        wrong++;
        System.out.println(what + " answered " + got + ", due is " + want);
    }

    /**
     * A call that throws must throw just this exception and change nothing: what is seen then is what is seen
     * of an object made alike without that call. (Two objects, since one is used for 512 calls only.)
     */
    static void refused(String what, Supplier<MotionPost> made, Class<? extends RuntimeException> due,
            Function<MotionPost, ?> call) {
        MotionPost post = made.get();
        due(what, answer(() -> call.apply(post)), "throws " + due.getSimpleName());
        due("what is seen after " + what, seen(post), seen(made.get()));
    }

    static String answer(Supplier<?> call) {
        try {
            return String.valueOf(call.get());
        } catch (RuntimeException e) {
            return "throws " + e.getClass().getSimpleName();
        }
    }

    /** All that the calls show which change nothing: the state, and what is no part of it. */
    static String seen(MotionPost post) {
        return seenState(post) + " undo " + post.undoCount() + " text " + post.textLength() + " " + post.textError();
    }

    /** What the calls show of the state, which undo and loadState bring back. */
    static String seenState(MotionPost post) {
        StringBuilder seen = new StringBuilder();
        for (int pixel = 0; pixel < 64; pixel++) {
            seen.append(post.drawnAt(pixel)).append(' ').append(post.sentAt(pixel)).append(' ')
                    .append(post.receivedAt(pixel)).append(' ');
        }
        for (int block = 0; block < 4; block++) {
            seen.append("| ").append(post.lastKind(block)).append(' ').append(post.lastMove(block)).append(' ')
                    .append(post.bestMove(block)).append(' ');
        }
        return seen.append("| ").append(post.pictureCount()).append(' ').append(post.lostCount()).append(' ')
                .append(post.bitCount()).append(' ').append(post.isKeyNext()).append(' ')
                .append(post.coarsenessNext()).append(' ').append(post.bitsNext()).append(' ')
                .append(post.error()).append(' ').append(post.drift()).toString();
    }

    /** The number that appendText takes for up to 8 characters. */
    static long packed(String characters) {
        long number = 0;
        for (int i = 0; i < characters.length(); i++) {
            number = number << 8 | characters.charAt(i);
        }
        return number;
    }

    static void append(MotionPost post, String text) {
        for (int i = 0; i < text.length(); i += 8) {
            post.appendText(packed(text.substring(i, Math.min(i + 8, text.length()))));
        }
    }

    static int run(MotionPost post, String text) {
        append(post, text);
        return post.runText();
    }

    /** Sends so many pictures, by texts, since an object is used for 512 calls only. */
    static void sendMany(MotionPost post, int pictures) {
        for (int sent = 0; sent < pictures; sent += 40) {
            run(post, "s;".repeat(Math.min(40, pictures - sent) - 1) + "s");
        }
    }

    static void end(String test) {
        System.out.println(test + ": " + right + " answers as due, " + wrong + " not");
        if (wrong != 0) {
            System.exit(1);
        }
    }
}
