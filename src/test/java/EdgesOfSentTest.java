import java.util.function.Function;

/** The edges of promises 23 to 27. */
public final class EdgesOfSentTest {
    public static void main(String[] args) throws IllegalAccessException {
        Check.runEach(EdgesOfSentTest.class);
    }

    private static void noSuch(Function<MotionPost, ?> call) {
        Check.refused("the call", Made::used, IndexOutOfBoundsException.class, call);
    }

    private static void noChange(Function<MotionPost, ?> call) {
        Check.altersNothing("the call", Made::used, call);
    }

    // ---- 23: "Returns how many pictures were sent."

    static void promise23_nothingSent_is0() {
        Check.due("pictureCount", new MotionPost().pictureCount(), 0);
    }

    static void promise23_onePicture_is1() {
        Check.due("pictureCount", Made.afterPictures(1).pictureCount(), 1);
    }

    static void promise23_allPictures_are999() {
        Check.due("pictureCount", Made.afterPictures(999).pictureCount(), 999);
    }

    static void promise23_lostPictures_areCountedToo() {
        MotionPost post = new MotionPost();
        post.send(true);
        Check.due("pictureCount", post.pictureCount(), 1);
    }

    static void promise23_picturesThatAreUndone_areNotCounted() {
        MotionPost post = new MotionPost();
        post.send(true);
        post.undo();
        Check.due("pictureCount", post.pictureCount(), 0);
    }

    static void promise23_isNoChange() {
        noChange(x -> x.pictureCount());
    }

    // ---- 24: "Returns how many of them were lost."

    static void promise24_nothingSent_is0() {
        Check.due("lostCount", new MotionPost().lostCount(), 0);
    }

    static void promise24_noneLost_is0() {
        Check.due("lostCount", Made.afterPictures(999).lostCount(), 0);
    }

    static void promise24_oneLost_is1() {
        MotionPost post = Made.afterPictures(2);
        post.send(true);
        Check.due("lostCount", post.lostCount(), 1);
    }

    static void promise24_allLost_are999() {
        MotionPost post = new MotionPost();
        for (int time = 0; time < 25; time++) {
            Check.run(post, "x;".repeat(39) + "x");
        }
        Check.due("pictureCount", post.pictureCount(), 999);
        Check.due("lostCount", post.lostCount(), 999);
    }

    static void promise24_picturesThatAreUndone_areNotCounted() {
        MotionPost post = new MotionPost();
        post.send(true);
        post.undo();
        Check.due("lostCount", post.lostCount(), 0);
    }

    static void promise24_isNoChange() {
        noChange(x -> x.lostCount());
    }

    // ---- 25: "Returns how many bits all pictures took that were sent."

    static void promise25_nothingSent_is0() {
        Check.due("bitCount", new MotionPost().bitCount(), 0);
    }

    static void promise25_oneKey_is264() {
        Check.due("bitCount", Made.afterPictures(1).bitCount(), 264);
    }

    static void promise25_999Keys_are263736() {
        MotionPost post = new MotionPost();
        post.setKeyDistance(1);
        Check.sendMany(post, 999);
        Check.due("bitCount", post.bitCount(), 999 * 264);
    }

    static void promise25_999PicturesOfNothingNew_are36496() {
        // The pictures 0, 8, .. 992 are keys: 125 of them.
        Check.due("bitCount", Made.afterPictures(999).bitCount(), 125 * 264 + 874 * 4);
    }

    static void promise25_bitsOfLostPictures_countToo() {
        MotionPost post = new MotionPost();
        post.send(true);
        post.send(true);
        Check.due("bitCount", post.bitCount(), 268);
    }

    static void promise25_bitsOfPicturesThatAreUndone_doNotCount() {
        MotionPost post = Made.block(15);
        post.send(false);
        Check.due("bitCount", post.bitCount(), 264 + 34);
        post.undo();
        Check.due("bitCount", post.bitCount(), 264);
    }

    static void promise25_isNoChange() {
        noChange(x -> x.bitCount());
    }

    // ---- 26: "Returns how a block of the picture sent last was sent; NONE if no picture was sent."

    /** Sent raw, moved by no move, moved by one up and left, and still, in this order of the blocks. */
    private static MotionPost threeKinds() {
        MotionPost post = new MotionPost();
        post.draw(42, 9);
        post.send(false);
        post.fill(0, 4, 4, 15);
        post.draw(4, 1);
        post.draw(42, 0);
        post.draw(51, 9);
        post.send(false);
        return post;
    }

    static void promise26_noPictureSent_isNone() {
        MotionPost post = new MotionPost();
        post.draw(0, 1);
        for (int block = 0; block < 4; block++) {
            Check.due("block " + block, post.lastKind(block), MotionPost.NONE);
        }
    }

    static void promise26_onePictureSent_isNotNone() {
        for (int block = 0; block < 4; block++) {
            Check.due("block " + block, Made.afterPictures(1).lastKind(block), MotionPost.RAW);
        }
    }

    static void promise26_onlyPictureUndone_isNoneAgain() {
        MotionPost post = new MotionPost();
        post.send(false);
        post.undo();
        Check.due("block 0", post.lastKind(0), MotionPost.NONE);
        Check.due("block 3", post.lastKind(3), MotionPost.NONE);
    }

    static void promise26_stateWithoutPicturesLoaded_isNoneAgain() {
        MotionPost post = new MotionPost();
        post.saveState(0);
        post.send(false);
        post.loadState(0);
        Check.due("block 0", post.lastKind(0), MotionPost.NONE);
        Check.due("block 3", post.lastKind(3), MotionPost.NONE);
    }

    static void promise26_rawBlockOfNoKey_isRaw() {
        Check.due("block 0", threeKinds().lastKind(0), MotionPost.RAW);
    }

    static void promise26_movedBlockByNoMove_isMoved() {
        Check.due("block 1", threeKinds().lastKind(1), MotionPost.MOVED);
    }

    static void promise26_movedBlockByAnotherMove_isMoved() {
        Check.due("block 2", threeKinds().lastKind(2), MotionPost.MOVED);
    }

    static void promise26_stillBlock_isStill() {
        Check.due("block 3", threeKinds().lastKind(3), MotionPost.STILL);
    }

    static void promise26_keyBehindOtherKinds_isRawForAllBlocks() {
        MotionPost post = Made.block(5);
        post.send(false);
        Check.due("block 0, before", post.lastKind(0), MotionPost.MOVED);
        post.setKeyDistance(1);
        post.send(false);
        for (int block = 0; block < 4; block++) {
            Check.due("block " + block, post.lastKind(block), MotionPost.RAW);
        }
    }

    static void promise26_rawBehindStill_isRaw() {
        MotionPost post = Made.afterPictures(2);
        Check.due("block 3, before", post.lastKind(3), MotionPost.STILL);
        post.fill(36, 4, 4, 15);
        post.send(false);
        Check.due("block 3", post.lastKind(3), MotionPost.RAW);
        Check.due("sentAt", post.sentAt(63), 15);
    }

    static void promise26_lostPicture_countsToo() {
        MotionPost post = Made.block(5);
        post.send(true);
        Check.due("block 0", post.lastKind(0), MotionPost.MOVED);
    }

    static void promise26_drawingAndForesight_doNotCount() {
        MotionPost post = Made.afterPictures(2);
        post.fill(0, 8, 8, 15);
        post.bitsNext();
        post.kindWith(0, 1);
        Check.due("block 0", post.lastKind(0), MotionPost.STILL);
    }

    static void promise26_blockMinus1_throwsIndexOutOfBounds() {
        noSuch(x -> x.lastKind(-1));
    }

    static void promise26_block4_throwsIndexOutOfBounds() {
        noSuch(x -> x.lastKind(4));
    }

    static void promise26_leastInt_throwsIndexOutOfBounds() {
        noSuch(x -> x.lastKind(Integer.MIN_VALUE));
    }

    static void promise26_greatestInt_throwsIndexOutOfBounds() {
        noSuch(x -> x.lastKind(Integer.MAX_VALUE));
    }

    static void promise26_noSuchBlockThoughNoPictureSent_throwsIndexOutOfBounds() {
        Check.refused("lastKind", MotionPost::new, IndexOutOfBoundsException.class, x -> x.lastKind(4));
    }

    static void promise26_isNoChange() {
        noChange(x -> x.lastKind(3));
    }

    // ---- 27: "the number of the move with which a block .. was sent; NONE if no picture was sent, or it was sent raw"

    static void promise27_noPictureSent_isNone() {
        MotionPost post = new MotionPost();
        post.draw(0, 1);
        for (int block = 0; block < 4; block++) {
            Check.due("block " + block, post.lastMove(block), MotionPost.NONE);
        }
    }

    static void promise27_key_isNone() {
        for (int block = 0; block < 4; block++) {
            Check.due("block " + block, Made.afterPictures(1).lastMove(block), MotionPost.NONE);
        }
    }

    static void promise27_keyBehindAMovedBlock_isNone() {
        MotionPost post = threeKinds();
        post.setKeyDistance(2);
        post.send(false);
        Check.due("block 2", post.lastMove(2), MotionPost.NONE);
    }

    static void promise27_rawBehindStill_isNone() {
        MotionPost post = Made.afterPictures(2);
        Check.due("block 3, before", post.lastMove(3), 12);
        post.fill(36, 4, 4, 15);
        post.send(false);
        Check.due("block 3", post.lastMove(3), MotionPost.NONE);
    }

    static void promise27_onlyPictureUndone_isNoneAgain() {
        MotionPost post = new MotionPost();
        Check.run(post, "s;s");
        Check.due("block 0, before", post.lastMove(0), 12);
        post.undo();
        Check.due("block 0", post.lastMove(0), MotionPost.NONE);
    }

    static void promise27_stateWithoutPicturesLoaded_isNoneAgain() {
        MotionPost post = new MotionPost();
        post.saveState(1);
        Check.run(post, "s;s");
        post.loadState(1);
        Check.due("block 3", post.lastMove(3), MotionPost.NONE);
    }

    static void promise27_rawBlockOfNoKey_isNone() {
        Check.due("block 0", threeKinds().lastMove(0), MotionPost.NONE);
    }

    static void promise27_movedBlockByNoMove_is12() {
        Check.due("block 1", threeKinds().lastMove(1), 12);
    }

    static void promise27_movedBlockByAnotherMove_isItsNumber() {
        Check.due("block 2", threeKinds().lastMove(2), 6);
    }

    static void promise27_stillBlock_is12() {
        Check.due("block 3", threeKinds().lastMove(3), 12);
    }

    static void promise27_firstMove_is0() {
        MotionPost post = Made.scrolledBy(0);
        post.send(false);
        Check.due("block 0", post.lastMove(0), 0);
    }

    static void promise27_lastMove_is24() {
        MotionPost post = Made.scrolledBy(24);
        post.send(true);
        Check.due("block 3", post.lastMove(3), 24);
    }

    static void promise27_drawingAndForesight_doNotCount() {
        MotionPost post = Made.scrolledBy(0);
        post.send(false);
        post.fill(0, 8, 8, 15);
        post.bitsNext();
        post.bitsByWriting(0, 1);
        Check.due("block 0", post.lastMove(0), 0);
    }

    static void promise27_blockMinus1_throwsIndexOutOfBounds() {
        noSuch(x -> x.lastMove(-1));
    }

    static void promise27_block4_throwsIndexOutOfBounds() {
        noSuch(x -> x.lastMove(4));
    }

    static void promise27_leastInt_throwsIndexOutOfBounds() {
        noSuch(x -> x.lastMove(Integer.MIN_VALUE));
    }

    static void promise27_greatestInt_throwsIndexOutOfBounds() {
        noSuch(x -> x.lastMove(Integer.MAX_VALUE));
    }

    static void promise27_noSuchBlockThoughNoPictureSent_throwsIndexOutOfBounds() {
        Check.refused("lastMove", MotionPost::new, IndexOutOfBoundsException.class, x -> x.lastMove(-1));
    }

    static void promise27_isNoChange() {
        noChange(x -> x.lastMove(3));
    }
}
