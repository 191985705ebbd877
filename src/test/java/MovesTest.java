import java.util.function.Supplier;

/** Promises 13 to 16. */
public final class MovesTest {
    private static final Class<IndexOutOfBoundsException> NO_SUCH = IndexOutOfBoundsException.class;

    public static void main(String[] args) {
        promise13Distance();
        promises14To16NothingToSee();
        promises14To16FirstAndLastPixel();
        promises14To16Stripes();
        promises14To16Diagonals();
        promises14To16LongMoves();
        promises13To16WrongBlocks();
        Check.end("MovesTest");
    }

    private static void best(MotionPost post, int block, int move, int equal) {
        Check.due("14: bestMove of block " + block, post.bestMove(block), move);
        Check.due("15: bestMoveByStopping of block " + block, post.bestMoveByStopping(block), move);
        Check.due("16: equalMoves of block " + block, post.equalMoves(block), equal);
    }

    private static void promise13Distance() {
        MotionPost post = new MotionPost();
        post.draw(0, 9);
        for (int move = 0; move < 25; move++) {
            Check.due("13: drawn 9, sent 0, move " + move, post.distance(0, move), 9);
            Check.due("13: other block, move " + move, post.distance(3, move), 0);
        }
        post.send(false);
        post.draw(0, 0);
        // Sent is 9 at row 0, column 0 alone; what lies beyond the upper left is taken from there.
        Check.due("13: two up, two to the left", post.distance(0, 0), 81);
        Check.due("13: two to the left", post.distance(0, 10), 27);
        Check.due("13: one up", post.distance(0, 7), 18);
        Check.due("13: no move", post.distance(0, 12), 9);
        Check.due("13: one to the right", post.distance(0, 13), 0);
        Check.due("13: two down, two to the right", post.distance(0, 24), 0);
        post.fill(0, 8, 8, 15);
        Check.due("13: the sum of all pixels", post.distance(0, 12), 15 * 16 - 9);
        Check.due("13: the greatest", post.distance(3, 12), 240);
        MotionPost corner = new MotionPost();
        corner.draw(63, 4);
        corner.send(false);
        corner.draw(63, 0);
        Check.due("13: two down, two to the right from the lower right", corner.distance(3, 24), 36);
        Check.due("13: one down", corner.distance(3, 17), 8);
        Check.due("13: two up and to the left", corner.distance(3, 0), 0);
    }

    private static void promises14To16NothingToSee() {
        MotionPost post = new MotionPost();
        for (int block = 0; block < 4; block++) {
            best(post, block, 12, 25);
        }
        post.draw(0, 1);
        best(post, 0, 12, 25);
        post.fill(0, 8, 8, 15);
        best(post, 0, 12, 25);
        best(post, 3, 12, 25);
    }

    private static void promises14To16FirstAndLastPixel() {
        MotionPost first = new MotionPost();
        first.draw(45, 5);
        first.send(false);
        first.fill(0, 8, 8, 0);
        first.draw(36, 5);
        // Other moves take the one bright pixel out of the block, but this one alone to the first pixel of it.
        best(first, 3, 18, 1);
        MotionPost last = new MotionPost();
        last.draw(18, 5);
        last.send(false);
        last.fill(0, 8, 8, 0);
        last.draw(27, 5);
        best(last, 0, 6, 1);
    }

    private static void promises14To16Stripes() {
        MotionPost post = new MotionPost();
        for (int column = 1; column < 8; column += 2) {
            post.fill(column, 8, 1, 9);
        }
        post.send(false);
        best(post, 0, 12, 10);
        for (int column = 0; column < 8; column++) {
            post.fill(column, 8, 1, column % 2 == 0 ? 9 : 0);
        }
        // Each stripe stands one column away, and the edge columns have a neighbour on one side alone.
        best(post, 0, 13, 5);
        best(post, 1, 11, 5);
        best(post, 2, 13, 5);
        best(post, 3, 11, 5);
    }

    private static void promises14To16Diagonals() {
        MotionPost post = new MotionPost();
        for (int pixel = 0; pixel < 64; pixel++) {
            post.draw(pixel, pixel / 8 + pixel % 8);
        }
        post.send(false);
        for (int pixel = 0; pixel < 64; pixel++) {
            post.draw(pixel, Math.max(0, pixel / 8 + pixel % 8 - 1));
        }
        // One up and one to the left are as good and as short: the lesser number counts.
        best(post, 3, 7, 2);
        for (int pixel = 0; pixel < 64; pixel++) {
            post.draw(pixel, Math.min(14, pixel / 8 + pixel % 8 + 1));
        }
        best(post, 0, 13, 2);
    }

    private static void promises14To16LongMoves() {
        for (int move = 0; move < 25; move++) {
            MotionPost post = new MotionPost();
            for (int pixel = 0; pixel < 64; pixel++) {
                post.draw(pixel, (pixel * pixel * 5 + pixel * 3 + pixel / 8) % 16);
            }
            post.send(false);
            post.scroll(move / 5 - 2, move % 5 - 2);
            for (int block = 0; block < 4; block++) {
                Check.due("13: scrolled by move " + move, post.distance(block, move), 0);
                best(post, block, move, 1);
            }
        }
    }

    private static void promises13To16WrongBlocks() {
        Supplier<MotionPost> made = MotionPost::new;
        for (int block : new int[] {-1, 4, Integer.MIN_VALUE, Integer.MAX_VALUE}) {
            Check.refused("13: distance", made, NO_SUCH, x -> x.distance(block, 12));
            Check.refused("14: bestMove", made, NO_SUCH, x -> x.bestMove(block));
            Check.refused("15: bestMoveByStopping", made, NO_SUCH, x -> x.bestMoveByStopping(block));
            Check.refused("16: equalMoves", made, NO_SUCH, x -> x.equalMoves(block));
        }
        for (int move : new int[] {-1, 25, Integer.MIN_VALUE, Integer.MAX_VALUE}) {
            Check.refused("13: distance by move " + move, made, NO_SUCH, x -> x.distance(0, move));
        }
    }
}
