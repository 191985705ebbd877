import java.util.function.Supplier;

/** Promises 5 to 7 and 17 to 27. */
public final class SendingTest {
    private static final Class<IndexOutOfBoundsException> NO_SUCH = IndexOutOfBoundsException.class;
    private static final Class<IllegalArgumentException> OUT_OF_RANGE = IllegalArgumentException.class;
    private static final int[] BITS_OF_LEVEL = {1, 4, 4, 6, 6, 6, 6, 8, 8, 8, 8, 8, 8, 8, 8, 10};
    private static final int[] FAR = {-1, 4, Integer.MIN_VALUE, Integer.MAX_VALUE};

    public static void main(String[] args) {
        promise5SendKey();
        promise5SendByLevels();
        promise5ReceiverStaysInRange();
        promise5ReceiverMovesItsOwnPicture();
        promise5LastPicture();
        promise6SetBudget();
        promises7And17KeyDistance();
        promises18To20LevelsOfOnePixel();
        promises18To20NegativeLevels();
        promises18To20MovedOrRaw();
        promises18To20StillOrMoved();
        promises18To20OneAfterTheOther();
        promises18To20WrongInputs();
        promises21And22Next();
        promises23To25Counts();
        promises26And27LastKindAndMove();
        Check.end("SendingTest");
    }

    private static MotionPost afterKey() {
        MotionPost post = new MotionPost();
        post.send(false);
        return post;
    }

    private static void promise5SendKey() {
        MotionPost post = new MotionPost();
        for (int pixel = 0; pixel < 64; pixel++) {
            post.draw(pixel, pixel % 16);
        }
        Check.due("5: a key", post.send(false), 264);
        for (int pixel = 0; pixel < 64; pixel++) {
            Check.due("5: sent", post.sentAt(pixel), pixel % 16);
            Check.due("5: received", post.receivedAt(pixel), pixel % 16);
        }
        Check.due("5: the same again", post.send(false), 4);
        Check.due("5: changes", post.undoCount(), 6);
        MotionPost lost = new MotionPost();
        lost.draw(5, 6);
        Check.due("5: a lost key", lost.send(true), 264);
        Check.due("5: sent all the same", lost.sentAt(5), 6);
        Check.due("5: the receiver does nothing", lost.receivedAt(5), 0);
        Check.due("5: still from a lost key", lost.send(false), 4);
        Check.due("5: the receiver keeps its own", lost.receivedAt(5), 0);
    }

    /** Pixel 0 is 15 and was 0; the bits, from coarseness 1 on, are 34, 32, 30, 30, 30, 28, 28, 28. */
    private static MotionPost onePixel() {
        MotionPost post = afterKey();
        post.draw(0, 15);
        return post;
    }

    private static void promise5SendByLevels() {
        int[] budgets = {300, 34, 33, 32, 31, 30, 29, 28, 27, 4};
        int[] bits = {34, 34, 32, 32, 30, 30, 28, 28, 28, 28};
        int[] coarse = {1, 1, 2, 2, 3, 3, 6, 6, 8, 8};
        int[] values = {15, 15, 14, 14, 15, 15, 12, 12, 8, 8};
        for (int i = 0; i < budgets.length; i++) {
            MotionPost post = onePixel();
            post.setBudget(budgets[i]);
            String with = " with budget " + budgets[i];
            Check.due("21: coarsenessNext" + with, post.coarsenessNext(), coarse[i]);
            Check.due("22: bitsNext" + with, post.bitsNext(), bits[i]);
            Check.due("5: send" + with, post.send(false), bits[i]);
            Check.due("5: sent" + with, post.sentAt(0), values[i]);
            Check.due("5: received" + with, post.receivedAt(0), values[i]);
            Check.due("5: the drawn picture stays" + with, post.drawnAt(0), 15);
            Check.due("11: error" + with, post.error(), (15 - values[i]) * (15 - values[i]));
        }
    }

    private static void promise5ReceiverStaysInRange() {
        MotionPost low = new MotionPost();
        low.fill(0, 8, 8, 15);
        low.send(true);
        low.draw(0, 5);
        low.send(false);
        Check.due("5: sent less", low.sentAt(0), 5);
        Check.due("5: received below 0", low.receivedAt(0), 0);
        MotionPost high = new MotionPost();
        high.fill(0, 8, 8, 15);
        high.send(false);
        high.setKeyDistance(1);
        high.fill(0, 8, 8, 0);
        high.send(true);
        high.setKeyDistance(20);
        high.draw(0, 7);
        high.send(false);
        Check.due("5: sent more", high.sentAt(0), 7);
        Check.due("5: received above 15", high.receivedAt(0), 15);
        Check.due("5: received elsewhere", high.receivedAt(1), 15);
        MotionPost between = new MotionPost();
        between.fill(0, 8, 8, 4);
        between.send(false);
        between.setKeyDistance(1);
        between.fill(0, 8, 8, 2);
        between.send(true);
        between.setKeyDistance(20);
        between.draw(0, 7);
        between.send(false);
        Check.due("5: the level is added to the own value", between.receivedAt(0), 9);
    }

    private static void promise5ReceiverMovesItsOwnPicture() {
        MotionPost post = new MotionPost();
        for (int pixel = 0; pixel < 64; pixel++) {
            post.draw(pixel, (pixel * 7 + pixel / 8) % 15);
        }
        post.send(false);
        post.setKeyDistance(1);
        for (int pixel = 0; pixel < 64; pixel++) {
            post.draw(pixel, post.drawnAt(pixel) + 1);
        }
        post.send(true);
        post.setKeyDistance(20);
        post.scroll(1, -2);
        Check.due("5: moved blocks alone", post.send(false), 4 * (6 + 16));
        for (int pixel = 0; pixel < 64; pixel++) {
            Check.due("5: sent, moved", post.sentAt(pixel), post.drawnAt(pixel));
            Check.due("5: received, moved from the own picture", post.receivedAt(pixel), post.drawnAt(pixel) - 1);
        }
        Check.due("12: drift", post.drift(), 64);
    }

    private static void promise5LastPicture() {
        Supplier<MotionPost> made = () -> {
            MotionPost post = new MotionPost();
            Check.sendMany(post, 999);
            return post;
        };
        MotionPost post = new MotionPost();
        Check.sendMany(post, 998);
        Check.due("5: picture 998", post.send(false), 4);
        Check.due("23: all", post.pictureCount(), 999);
        Check.refused("5: one more", made, IllegalStateException.class, x -> x.send(false));
        Check.refused("5: one more, lost", made, IllegalStateException.class, x -> x.send(true));
        Check.due("22: bitsNext, though nothing can be sent", post.bitsNext(), 4);
        Check.due("32: a command that fails", Check.run(post, "u;s;d"), 1);
        Check.due("32: another one", Check.run(post, "x"), 0);
        Check.due("33: undo", post.undo(), 5);
        post.undo();
        Check.due("33: undo the last picture", post.undo(), 3);
        Check.due("5: again", post.send(true), 4);
    }

    private static void promise6SetBudget() {
        Supplier<MotionPost> made = SendingTest::onePixel;
        MotionPost post = onePixel();
        Check.due("6: the first budget", post.setBudget(4), 120);
        Check.due("6: the least", post.setBudget(300), 4);
        Check.due("6: the greatest", post.setBudget(300), 300);
        Check.due("6: changes", post.undoCount(), 5);
        Check.refused("6: too small", made, OUT_OF_RANGE, x -> x.setBudget(3));
        Check.refused("6: too great", made, OUT_OF_RANGE, x -> x.setBudget(301));
        Check.refused("6: negative", made, OUT_OF_RANGE, x -> x.setBudget(-120));
        Check.due("6: it stayed", post.setBudget(31), 300);
        Check.due("6: what follows", post.coarsenessNext(), 3);
        post.undo();
        Check.due("6: undone", post.coarsenessNext(), 1);
    }

    private static void promises7And17KeyDistance() {
        Supplier<MotionPost> made = SendingTest::onePixel;
        MotionPost post = new MotionPost();
        for (int picture = 0; picture < 18; picture++) {
            Check.due("17: picture " + picture, post.isKeyNext(), picture % 8 == 0);
            Check.due("17: sent so, " + picture, post.send(false), picture % 8 == 0 ? 264 : 4);
        }
        Check.due("7: the first distance", post.setKeyDistance(20), 8);
        Check.due("17: 18 of 20", post.isKeyNext(), false);
        Check.due("7: the greatest", post.setKeyDistance(1), 20);
        Check.due("17: 18 of 1", post.isKeyNext(), true);
        Check.due("7: the least", post.setKeyDistance(9), 1);
        Check.due("17: 18 of 9", post.isKeyNext(), true);
        Check.due("7: the same again", post.setKeyDistance(9), 9);
        Check.due("7: changes", post.undoCount(), 6);
        Check.refused("7: 0", made, OUT_OF_RANGE, x -> x.setKeyDistance(0));
        Check.refused("7: 21", made, OUT_OF_RANGE, x -> x.setKeyDistance(21));
        Check.refused("7: -8", made, OUT_OF_RANGE, x -> x.setKeyDistance(-8));
        post.setKeyDistance(7);
        Check.due("17: 18 of 7", post.isKeyNext(), false);
    }

    private static void with(MotionPost post, int block, int coarseness, int kind, int bits) {
        String what = " of block " + block + " with " + coarseness;
        Check.due("18: kindWith" + what, post.kindWith(block, coarseness), kind);
        Check.due("19: bitsWith" + what, post.bitsWith(block, coarseness), bits);
        Check.due("20: bitsByWriting" + what, post.bitsByWriting(block, coarseness), bits);
    }

    private static void promises18To20LevelsOfOnePixel() {
        for (int value = 1; value <= 15; value++) {
            MotionPost post = afterKey();
            post.draw(63, value);
            for (int coarseness = 1; coarseness <= 8; coarseness++) {
                int level = value / coarseness;
                with(post, 3, coarseness, level == 0 ? MotionPost.STILL : MotionPost.MOVED,
                        level == 0 ? 1 : 6 + 15 + BITS_OF_LEVEL[level]);
                with(post, 0, coarseness, MotionPost.STILL, 1);
            }
        }
        MotionPost post = new MotionPost();
        post.draw(63, 15);
        Check.due("18: also before a key, as if it was none", post.kindWith(3, 1), MotionPost.MOVED);
        with(post, 3, 1, MotionPost.MOVED, 31);
    }

    private static void promises18To20NegativeLevels() {
        MotionPost post = new MotionPost();
        post.fill(0, 8, 8, 15);
        post.send(false);
        post.draw(0, 8);
        with(post, 0, 1, MotionPost.MOVED, 29);
        with(post, 0, 2, MotionPost.MOVED, 27);
        with(post, 0, 4, MotionPost.MOVED, 25);
        with(post, 0, 8, MotionPost.STILL, 1);
        for (int value = 0; value < 15; value++) {
            post.draw(63, value);
            with(post, 3, 1, MotionPost.MOVED, 6 + 15 + BITS_OF_LEVEL[15 - value]);
        }
        post.draw(63, 15);
        post.setBudget(30);
        Check.due("5: a negative level", post.send(false), 30);
        Check.due("5: cut off toward 0", post.sentAt(0), 15 - 2 * 3);
    }

    private static MotionPost rows(int... values) {
        MotionPost post = afterKey();
        for (int i = 0; i < values.length; i++) {
            post.draw(i / 4 * 8 + i % 4, values[i]);
        }
        return post;
    }

    private static void promises18To20MovedOrRaw() {
        MotionPost just = rows(3, 4, 5, 6, 3, 4, 5, 1, 2, 1);
        with(just, 0, 1, MotionPost.MOVED, 66);
        MotionPost over = rows(3, 4, 5, 6, 3, 4, 5, 6, 3);
        with(over, 0, 1, MotionPost.RAW, 66);
        with(over, 0, 2, MotionPost.MOVED, 6 + 7 * 4 + 2 * 6 + 7);
        MotionPost far = afterKey();
        far.fill(0, 4, 4, 15);
        with(far, 0, 1, MotionPost.RAW, 66);
        with(far, 0, 2, MotionPost.RAW, 66);
        with(far, 0, 7, MotionPost.RAW, 66);
        with(far, 0, 8, MotionPost.RAW, 66);
        far.setBudget(4);
        Check.due("5: a raw block among still ones", far.send(false), 69);
        Check.due("5: a raw block is exact", far.error(), 0);
        Check.due("26: raw", far.lastKind(0), MotionPost.RAW);
        Check.due("27: raw", far.lastMove(0), MotionPost.NONE);
        Check.due("26: still", far.lastKind(3), MotionPost.STILL);
        Check.due("27: still", far.lastMove(3), 12);
        just.send(true);
        Check.due("26: just moved", just.lastKind(0), MotionPost.MOVED);
        Check.due("27: moved by no move", just.lastMove(0), 12);
    }

    private static void promises18To20StillOrMoved() {
        MotionPost post = new MotionPost();
        post.fill(0, 8, 4, 9);
        post.send(false);
        post.scroll(0, -1);
        with(post, 0, 1, MotionPost.STILL, 1);
        with(post, 1, 1, MotionPost.MOVED, 22);
        with(post, 1, 8, MotionPost.MOVED, 22);
        post.send(false);
        Check.due("26: moved without additions", post.lastKind(1), MotionPost.MOVED);
        Check.due("27: from one column to the left", post.lastMove(1), 11);
    }

    private static void promises18To20OneAfterTheOther() {
        MotionPost post = afterKey();
        post.draw(63, 15);
        Check.due("19: bitsWith", post.bitsWith(3, 1), 31);
        post.draw(63, 1);
        Check.due("20: bitsByWriting", post.bitsByWriting(3, 1), 25);
        post.draw(63, 3);
        Check.due("18: kindWith", post.kindWith(3, 2), MotionPost.MOVED);
        post.draw(63, 1);
        Check.due("18: kindWith", post.kindWith(3, 2), MotionPost.STILL);
        post.fill(36, 4, 4, 15);
        Check.due("18: kindWith", post.kindWith(3, 2), MotionPost.RAW);
        Check.due("22: bitsNext", post.bitsNext(), 69);
        post.undo();
        Check.due("22: bitsNext", post.bitsNext(), 28);
        post.undo();
        Check.due("21: coarsenessNext", post.coarsenessNext(), 1);
        Check.due("22: bitsNext", post.bitsNext(), 30);
        Check.due("19: with another coarseness, before sending", post.bitsWith(3, 8), 1);
        Check.due("5: send", post.send(false), 30);
        Check.due("9: sent", post.sentAt(63), 3);
    }

    private static void promises18To20WrongInputs() {
        Supplier<MotionPost> made = SendingTest::onePixel;
        for (int block : FAR) {
            Check.refused("18: block", made, NO_SUCH, x -> x.kindWith(block, 1));
            Check.refused("19: block", made, NO_SUCH, x -> x.bitsWith(block, 1));
            Check.refused("20: block", made, NO_SUCH, x -> x.bitsByWriting(block, 1));
            Check.refused("18: both", made, NO_SUCH, x -> x.kindWith(block, 0));
            Check.refused("19: both", made, NO_SUCH, x -> x.bitsWith(block, 0));
            Check.refused("20: both", made, NO_SUCH, x -> x.bitsByWriting(block, 0));
        }
        for (int coarseness : new int[] {0, 9, -1, Integer.MIN_VALUE, Integer.MAX_VALUE}) {
            Check.refused("18: coarseness", made, OUT_OF_RANGE, x -> x.kindWith(0, coarseness));
            Check.refused("19: coarseness", made, OUT_OF_RANGE, x -> x.bitsWith(0, coarseness));
            Check.refused("20: coarseness", made, OUT_OF_RANGE, x -> x.bitsByWriting(0, coarseness));
        }
    }

    private static void promises21And22Next() {
        MotionPost post = new MotionPost();
        Check.due("21: a key", post.coarsenessNext(), MotionPost.NONE);
        Check.due("22: a key", post.bitsNext(), 264);
        post.setBudget(4);
        Check.due("22: a key, whatever the budget", post.bitsNext(), 264);
        post.send(false);
        Check.due("21: four still blocks are within the least budget", post.coarsenessNext(), 1);
        Check.due("22: four still blocks", post.bitsNext(), 4);
        post.fill(0, 8, 8, 15);
        Check.due("21: none is enough", post.coarsenessNext(), 8);
        Check.due("22: all raw, though no key", post.bitsNext(), 264);
        post.fill(0, 8, 8, 7);
        Check.due("21: nothing is sent with 8", post.coarsenessNext(), 8);
        Check.due("22: nothing is sent with 8", post.bitsNext(), 4);
        post.setBudget(264);
        Check.due("21: just within the budget", post.coarsenessNext(), 1);
        post.setBudget(263);
        Check.due("21: just beyond the budget", post.coarsenessNext(), 8);
        post.setKeyDistance(1);
        Check.due("21: a key again", post.coarsenessNext(), MotionPost.NONE);
    }

    private static void promises23To25Counts() {
        MotionPost post = onePixel();
        Check.due("25: the key", post.bitCount(), 264);
        post.send(true);
        post.send(false);
        post.send(true);
        Check.due("23: pictureCount", post.pictureCount(), 4);
        Check.due("24: lostCount", post.lostCount(), 2);
        Check.due("25: bitCount", post.bitCount(), 264 + 34 + 4 + 4);
        post.undo();
        Check.due("23: undone", post.pictureCount(), 3);
        Check.due("24: undone", post.lostCount(), 1);
        Check.due("25: undone", post.bitCount(), 264 + 34 + 4);
    }

    private static void keyAfterOthers() {
        MotionPost post = onePixel();
        post.send(true);
        post.setKeyDistance(2);
        Check.due("5: a key after others", post.send(false), 264);
        for (int block = 0; block < 4; block++) {
            Check.due("26: a key after others", post.lastKind(block), MotionPost.RAW);
            Check.due("27: a key after others", post.lastMove(block), MotionPost.NONE);
        }
        Check.due("12: the receiver is back", post.drift(), 0);
    }

    private static void promises26And27LastKindAndMove() {
        MotionPost post = new MotionPost();
        for (int block = 0; block < 4; block++) {
            Check.due("26: nothing sent", post.lastKind(block), MotionPost.NONE);
            Check.due("27: nothing sent", post.lastMove(block), MotionPost.NONE);
        }
        post.draw(63, 1);
        post.send(false);
        for (int block = 0; block < 4; block++) {
            Check.due("26: a key", post.lastKind(block), MotionPost.RAW);
            Check.due("27: a key", post.lastMove(block), MotionPost.NONE);
        }
        post.draw(0, 1);
        post.scroll(-2, -2);
        post.send(false);
        Check.due("26: one of the scrolled", post.lastKind(0), MotionPost.MOVED);
        Check.due("26: drawing does not count", post.lastKind(1), MotionPost.STILL);
        post.draw(32, 9);
        Check.due("26: what is drawn is not sent", post.lastKind(2), MotionPost.STILL);
        keyAfterOthers();
        post.undo();
        post.undo();
        post.undo();
        post.undo();
        Check.due("26: undone to the key", post.lastKind(0), MotionPost.RAW);
        post.undo();
        Check.due("26: undone to nothing sent", post.lastKind(0), MotionPost.NONE);
        Check.due("27: undone to nothing sent", post.lastMove(0), MotionPost.NONE);
        Supplier<MotionPost> made = SendingTest::onePixel;
        for (int block : FAR) {
            Check.refused("26: block", made, NO_SUCH, x -> x.lastKind(block));
            Check.refused("27: block", made, NO_SUCH, x -> x.lastMove(block));
        }
    }
}
