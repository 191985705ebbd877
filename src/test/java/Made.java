import java.util.function.Supplier;

/** Objects to begin tests with. */
final class Made {
    private Made() {
    }

    /** All parts of the state differ from those of a new object; with a text, six states recorded, slot 0 saved. */
    static MotionPost used() {
        MotionPost post = new MotionPost();
        post.draw(5, 6);
        post.send(false);
        post.saveState(0);
        post.scroll(1, 1);
        post.send(true);
        post.fill(30, 4, 2, 9);
        post.setBudget(50);
        post.setKeyDistance(12);
        post.send(false);
        post.draw(1, 15);
        Check.append(post, "p9=9;u;s");
        return post;
    }

    /** All pictures are 0 everywhere, and the next one is no key. */
    static MotionPost afterKey() {
        MotionPost post = new MotionPost();
        post.send(false);
        return post;
    }

    /** All pictures have one value everywhere, and the next one is no key. */
    static MotionPost even(int value) {
        MotionPost post = new MotionPost();
        post.fill(0, 8, 8, value);
        post.send(false);
        return post;
    }

    /** Sent 0 everywhere; drawn like this in the block 0, row by row, and 0 behind these values. */
    static MotionPost block(int... values) {
        MotionPost post = afterKey();
        drawBlock(post, 0, values);
        return post;
    }

    static void drawBlock(MotionPost post, int block, int... values) {
        int first = 32 * (block / 2) + 4 * (block % 2);
        for (int i = 0; i < values.length; i++) {
            post.draw(first + 8 * (i / 4) + i % 4, values[i]);
        }
    }

    /** So many values, the first ones of them this, and the others that. */
    static int[] values(int firstOnes, int value, int others, int otherValue) {
        int[] values = new int[firstOnes + others];
        for (int i = 0; i < values.length; i++) {
            values[i] = i < firstOnes ? value : otherValue;
        }
        return values;
    }

    /** Sent and received alike; the pixel in a row and column has rowStep * row + columnStep * column + first. */
    static MotionPost slope(int rowStep, int columnStep, int first) {
        MotionPost post = new MotionPost();
        drawSlope(post, rowStep, columnStep, first);
        post.send(false);
        return post;
    }

    /** Values below 0 and above 15 are drawn as 0 and 15. */
    static void drawSlope(MotionPost post, int rowStep, int columnStep, int first) {
        for (int pixel = 0; pixel < 64; pixel++) {
            int value = rowStep * (pixel / 8) + columnStep * (pixel % 8) + first;
            post.draw(pixel, Math.max(0, Math.min(value, 15)));
        }
    }

    /** Sent is a picture in which each move shows, and drawn is what a move takes from it. */
    static MotionPost scrolledBy(int move) {
        MotionPost post = new MotionPost();
        for (int pixel = 0; pixel < 64; pixel++) {
            post.draw(pixel, (pixel * pixel * 5 + pixel * 3 + pixel / 8) % 16);
        }
        post.send(false);
        post.scroll(move / 5 - 2, move % 5 - 2);
        return post;
    }

    static MotionPost withText(String text) {
        MotionPost post = new MotionPost();
        Check.append(post, text);
        return post;
    }

    /** With so many pictures sent, all 0 everywhere, the first one a key and then each eighth. */
    static MotionPost afterPictures(int pictures) {
        MotionPost post = new MotionPost();
        Check.sendMany(post, pictures);
        return post;
    }

    static Supplier<MotionPost> pictures(int pictures) {
        return () -> afterPictures(pictures);
    }
}
