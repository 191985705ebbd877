import java.util.function.Supplier;

/** Promises 1 to 4 and 8 to 12. */
public final class PicturesTest {
    private static final Class<IndexOutOfBoundsException> NO_SUCH = IndexOutOfBoundsException.class;
    private static final Class<IllegalArgumentException> OUT_OF_RANGE = IllegalArgumentException.class;

    public static void main(String[] args) {
        promise1NewObject();
        promise2Draw();
        promise3Fill();
        promise4Scroll();
        promises8To10PixelsOfThreePictures();
        promise11Error();
        promise12Drift();
        Check.end("PicturesTest");
    }

    /** An object in which each picture has another value in each corner. */
    private static MotionPost threePictures() {
        MotionPost post = new MotionPost();
        post.draw(0, 4);
        post.draw(63, 5);
        post.send(false);
        post.setKeyDistance(1);
        post.draw(0, 6);
        post.draw(63, 7);
        post.send(true);
        post.draw(0, 8);
        post.draw(63, 9);
        return post;
    }

    private static void promise1NewObject() {
        Supplier<MotionPost> made = MotionPost::new;
        MotionPost post = new MotionPost();
        for (int pixel = 0; pixel < 64; pixel++) {
            Check.due("1: drawnAt " + pixel, post.drawnAt(pixel), 0);
            Check.due("1: sentAt " + pixel, post.sentAt(pixel), 0);
            Check.due("1: receivedAt " + pixel, post.receivedAt(pixel), 0);
        }
        for (int block = 0; block < 4; block++) {
            Check.due("1: lastKind", post.lastKind(block), MotionPost.NONE);
            Check.due("1: lastMove", post.lastMove(block), MotionPost.NONE);
            Check.due("1: bestMove", post.bestMove(block), 12);
        }
        Check.due("1: error", post.error(), 0);
        Check.due("1: drift", post.drift(), 0);
        Check.due("1: pictureCount", post.pictureCount(), 0);
        Check.due("1: lostCount", post.lostCount(), 0);
        Check.due("1: bitCount", post.bitCount(), 0);
        Check.due("1: isKeyNext", post.isKeyNext(), true);
        Check.due("1: textLength", post.textLength(), 0);
        Check.due("1: undoCount", post.undoCount(), 0);
        Check.refused("1: undo", made, IllegalStateException.class, x -> x.undo());
        Check.refused("1: loadState(0)", made, IllegalStateException.class, x -> x.loadState(0));
        Check.refused("1: loadState(1)", made, IllegalStateException.class, x -> x.loadState(1));
        Check.due("1: first budget", post.setBudget(200), 120);
        Check.due("1: first key distance", post.setKeyDistance(3), 8);
        MotionPost other = new MotionPost();
        Check.due("1: another object has its own state", other.setBudget(100), 120);
    }

    private static void promise2Draw() {
        Supplier<MotionPost> made = PicturesTest::threePictures;
        MotionPost post = new MotionPost();
        Check.due("2: draw", post.draw(10, 7), 0);
        Check.due("2: draw again", post.draw(10, 3), 7);
        Check.due("2: the pixel", post.drawnAt(10), 3);
        Check.due("2: its neighbours", post.drawnAt(9) + post.drawnAt(11) + post.drawnAt(2) + post.drawnAt(18), 0);
        Check.due("2: first pixel, greatest value", post.draw(0, 15), 0);
        Check.due("2: last pixel, greatest value", post.draw(63, 15), 0);
        Check.due("2: last pixel, least value", post.draw(63, 0), 15);
        Check.due("2: nothing is sent", post.sentAt(0) + post.receivedAt(0) + post.pictureCount(), 0);
        Check.due("2: changes", post.undoCount(), 5);
        Check.due("2: draw the same", post.draw(10, 3), 3);
        Check.due("2: a change all the same", post.undoCount(), 6);
        Check.refused("2: pixel -1", made, NO_SUCH, x -> x.draw(-1, 0));
        Check.refused("2: pixel 64", made, NO_SUCH, x -> x.draw(64, 0));
        Check.refused("2: greatest int", made, NO_SUCH, x -> x.draw(Integer.MAX_VALUE, 0));
        Check.refused("2: both wrong", made, NO_SUCH, x -> x.draw(64, 16));
        Check.refused("2: value -1", made, OUT_OF_RANGE, x -> x.draw(0, -1));
        Check.refused("2: value 16", made, OUT_OF_RANGE, x -> x.draw(0, 16));
    }

    private static void promise3Fill() {
        Supplier<MotionPost> made = PicturesTest::threePictures;
        MotionPost post = new MotionPost();
        Check.due("3: fill", post.fill(9, 2, 3, 5), 6);
        for (int pixel = 0; pixel < 64; pixel++) {
            boolean inside = pixel >= 9 && pixel <= 11 || pixel >= 17 && pixel <= 19;
            Check.due("3: pixel " + pixel, post.drawnAt(pixel), inside ? 5 : 0);
        }
        Check.due("3: the same again", post.fill(9, 2, 3, 5), 0);
        Check.due("3: a change all the same", post.undoCount(), 2);
        Check.due("3: overlapping", post.fill(0, 2, 2, 5), 3);
        Check.due("3: cut at the lower right", post.fill(54, 8, 8, 7), 4);
        Check.due("3: cut at the right, no new row", post.fill(23, 1, 8, 2), 1);
        Check.due("3: the next row stays", post.drawnAt(24), 0);
        Check.due("3: cut below", post.fill(56, 8, 1, 2), 1);
        Check.due("3: last pixel", post.fill(63, 1, 1, 7), 0);
        Check.due("3: one pixel", post.fill(63, 1, 1, 8), 1);
        Check.due("3: all", new MotionPost().fill(0, 8, 8, 15), 64);
        Check.due("3: high", new MotionPost().fill(0, 8, 1, 1), 8);
        Check.due("3: wide", new MotionPost().fill(0, 1, 8, 1), 8);
        Check.refused("3: pixel -1", made, NO_SUCH, x -> x.fill(-1, 1, 1, 0));
        Check.refused("3: pixel 64", made, NO_SUCH, x -> x.fill(64, 1, 1, 0));
        Check.refused("3: all wrong", made, NO_SUCH, x -> x.fill(64, 0, 0, 16));
        Check.refused("3: height 0", made, OUT_OF_RANGE, x -> x.fill(0, 0, 1, 1));
        Check.refused("3: height 9", made, OUT_OF_RANGE, x -> x.fill(0, 9, 1, 1));
        Check.refused("3: width 0", made, OUT_OF_RANGE, x -> x.fill(0, 1, 0, 1));
        Check.refused("3: width 9", made, OUT_OF_RANGE, x -> x.fill(0, 1, 9, 1));
        Check.refused("3: value -1", made, OUT_OF_RANGE, x -> x.fill(0, 1, 1, -1));
        Check.refused("3: value 16", made, OUT_OF_RANGE, x -> x.fill(0, 1, 1, 16));
    }

    private static void promise4Scroll() {
        Supplier<MotionPost> made = PicturesTest::threePictures;
        for (int down = -2; down <= 2; down++) {
            for (int right = -2; right <= 2; right++) {
                scrollOnce(down, right);
            }
        }
        MotionPost post = new MotionPost();
        Check.due("4: nothing to see", post.scroll(1, 1), 0);
        Check.due("4: a change all the same", post.undoCount(), 1);
        post.draw(0, 9);
        Check.due("4: the corner spreads", post.scroll(-2, -2), 8);
        Check.refused("4: down 3", made, OUT_OF_RANGE, x -> x.scroll(3, 0));
        Check.refused("4: down -3", made, OUT_OF_RANGE, x -> x.scroll(-3, 0));
        Check.refused("4: right 3", made, OUT_OF_RANGE, x -> x.scroll(0, 3));
        Check.refused("4: right -3", made, OUT_OF_RANGE, x -> x.scroll(0, -3));
    }

    private static void scrollOnce(int down, int right) {
        MotionPost post = new MotionPost();
        for (int pixel = 0; pixel < 64; pixel++) {
            post.draw(pixel, pixel * 7 % 16);
        }
        int changed = 0;
        int got = post.scroll(down, right);
        for (int pixel = 0; pixel < 64; pixel++) {
            int row = Math.min(7, Math.max(0, pixel / 8 + down));
            int column = Math.min(7, Math.max(0, pixel % 8 + right));
            int value = (8 * row + column) * 7 % 16;
            changed += value == pixel * 7 % 16 ? 0 : 1;
            Check.due("4: scroll " + down + " " + right + " pixel " + pixel, post.drawnAt(pixel), value);
        }
        Check.due("4: scroll " + down + " " + right, got, changed);
        Check.due("4: only the drawn picture", post.sentAt(63) + post.receivedAt(63), 0);
    }

    private static void promises8To10PixelsOfThreePictures() {
        Supplier<MotionPost> made = PicturesTest::threePictures;
        MotionPost post = threePictures();
        Check.due("8: drawnAt 0", post.drawnAt(0), 8);
        Check.due("8: drawnAt 63", post.drawnAt(63), 9);
        Check.due("9: sentAt 0", post.sentAt(0), 6);
        Check.due("9: sentAt 63", post.sentAt(63), 7);
        Check.due("10: receivedAt 0", post.receivedAt(0), 4);
        Check.due("10: receivedAt 63", post.receivedAt(63), 5);
        for (int pixel : new int[] {-1, 64, Integer.MIN_VALUE, Integer.MAX_VALUE}) {
            Check.refused("8: drawnAt " + pixel, made, NO_SUCH, x -> x.drawnAt(pixel));
            Check.refused("9: sentAt " + pixel, made, NO_SUCH, x -> x.sentAt(pixel));
            Check.refused("10: receivedAt " + pixel, made, NO_SUCH, x -> x.receivedAt(pixel));
        }
    }

    private static void promise11Error() {
        MotionPost post = new MotionPost();
        post.draw(0, 3);
        post.draw(63, 15);
        Check.due("11: squares", post.error(), 9 + 225);
        post.send(true);
        Check.due("11: a key is exact, even if it is lost", post.error(), 0);
        post.draw(63, 13);
        Check.due("11: less than sent", post.error(), 4);
        post.fill(0, 8, 8, 15);
        MotionPost white = new MotionPost();
        white.fill(0, 8, 8, 15);
        Check.due("11: the greatest", white.error(), 64 * 225);
    }

    private static void promise12Drift() {
        MotionPost post = new MotionPost();
        post.draw(0, 3);
        post.draw(63, 15);
        Check.due("12: drawing is no drift", post.drift(), 0);
        post.send(true);
        Check.due("12: lost", post.drift(), 18);
        post.setKeyDistance(1);
        post.send(false);
        Check.due("12: a key brings the receiver back", post.drift(), 0);
        post.draw(63, 0);
        post.send(true);
        Check.due("12: sent less than received", post.drift(), 15);
    }
}
