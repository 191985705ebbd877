import java.util.function.Function;

/** The edges of promises 5 to 7. */
public final class EdgesOfSendingTest {
    public static void main(String[] args) throws IllegalAccessException {
        Check.runEach(EdgesOfSendingTest.class);
    }

    private static void outOfRange(Function<MotionPost, ?> call) {
        Check.refused("the call", Made::used, IllegalArgumentException.class, call);
    }

    // ---- 5: "Throws IllegalStateException if 999 pictures were sent"

    static void promise05_picture998_isTheLastThatIsSent() {
        MotionPost post = Made.afterPictures(998);
        Check.due("send", post.send(false), 4);
        Check.due("pictureCount", post.pictureCount(), 999);
        Check.due("lostCount", post.lostCount(), 0);
    }

    static void promise05_picture998_canBeLost() {
        MotionPost post = Made.afterPictures(998);
        Check.due("send", post.send(true), 4);
        Check.due("pictureCount", post.pictureCount(), 999);
        Check.due("lostCount", post.lostCount(), 1);
    }

    static void promise05_after999Pictures_throwsIllegalState() {
        Check.refused("send(false)", Made.pictures(999), IllegalStateException.class, x -> x.send(false));
    }

    static void promise05_after999PicturesAndLost_throwsIllegalState() {
        Check.refused("send(true)", Made.pictures(999), IllegalStateException.class, x -> x.send(true));
    }

    static void promise05_after999Pictures_drawingAndSettingGoOn() {
        MotionPost post = Made.afterPictures(999);
        Check.due("draw", post.draw(0, 5), 0);
        Check.due("setBudget", post.setBudget(4), 120);
        Check.due("setKeyDistance", post.setKeyDistance(1), 8);
    }

    static void promise05_oneOf999PicturesUndone_canBeSentAgain() {
        MotionPost post = Made.afterPictures(998);
        post.send(false);
        post.undo();
        Check.due("send", post.send(true), 4);
        Check.due("pictureCount", post.pictureCount(), 999);
    }

    static void promise05_stateWithFewerPicturesLoaded_canBeSentAgain() {
        MotionPost post = new MotionPost();
        post.saveState(0);
        Check.sendMany(post, 999);
        Check.due("loadState", post.loadState(0), 0);
        Check.due("send", post.send(false), 264);
    }

    // ---- 5: "Returns how many bits it takes.", "lost: whether it is lost", "This is a change."

    static void promise05_firstPicture_takes264Bits() {
        Check.due("send", new MotionPost().send(false), 264);
    }

    static void promise05_nothingNew_takes4Bits() {
        Check.due("send", Made.afterKey().send(false), 4);
    }

    static void promise05_allBlocksRawThoughNoKey_takes264Bits() {
        MotionPost post = Made.afterKey();
        post.fill(0, 8, 8, 15);
        Check.due("isKeyNext", post.isKeyNext(), false);
        Check.due("send", post.send(false), 264);
    }

    static void promise05_lostOrNot_takesTheSameBits() {
        Check.due("send(false)", Made.block(15).send(false), 34);
        Check.due("send(true)", Made.block(15).send(true), 34);
    }

    static void promise05_notLost_isReceived() {
        MotionPost post = new MotionPost();
        post.draw(63, 15);
        post.send(false);
        Check.due("receivedAt", post.receivedAt(63), 15);
        Check.due("lostCount", post.lostCount(), 0);
    }

    static void promise05_lost_isNotReceived() {
        MotionPost post = new MotionPost();
        post.draw(63, 15);
        post.send(true);
        Check.due("sentAt", post.sentAt(63), 15);
        Check.due("receivedAt", post.receivedAt(63), 0);
        Check.due("lostCount", post.lostCount(), 1);
    }

    static void promise05_drawnPicture_staysThoughItIsSentCoarser() {
        MotionPost post = Made.block(15);
        post.setBudget(4);
        post.send(false);
        Check.due("drawnAt", post.drawnAt(0), 15);
        Check.due("sentAt", post.sentAt(0), 8);
    }

    static void promise05_nothingNew_isAChangeToo() {
        MotionPost post = Made.afterKey();
        post.send(false);
        Check.due("undoCount", post.undoCount(), 2);
    }

    // ---- 6: "bits: 4 to 300", "Throws IllegalArgumentException if bits is out of range"

    static void promise06_4_isTheLeast() {
        MotionPost post = new MotionPost();
        Check.due("setBudget", post.setBudget(4), 120);
        Check.due("setBudget again", post.setBudget(120), 4);
    }

    static void promise06_300_isTheGreatest() {
        MotionPost post = new MotionPost();
        Check.due("setBudget", post.setBudget(300), 120);
        Check.due("setBudget again", post.setBudget(120), 300);
    }

    static void promise06_3_throwsIllegalArgument() {
        outOfRange(x -> x.setBudget(3));
    }

    static void promise06_301_throwsIllegalArgument() {
        outOfRange(x -> x.setBudget(301));
    }

    static void promise06_0_throwsIllegalArgument() {
        outOfRange(x -> x.setBudget(0));
    }

    static void promise06_minus4_throwsIllegalArgument() {
        outOfRange(x -> x.setBudget(-4));
    }

    static void promise06_leastInt_throwsIllegalArgument() {
        outOfRange(x -> x.setBudget(Integer.MIN_VALUE));
    }

    static void promise06_greatestInt_throwsIllegalArgument() {
        outOfRange(x -> x.setBudget(Integer.MAX_VALUE));
    }

    // ---- 6: "Returns the previous budget.", "This is a change."

    static void promise06_sameBudget_isAChangeToo() {
        MotionPost post = new MotionPost();
        Check.due("setBudget", post.setBudget(120), 120);
        Check.due("undoCount", post.undoCount(), 1);
    }

    static void promise06_otherBudget_countsForTheNextPicture() {
        MotionPost post = Made.block(15);
        Check.due("with 120", post.coarsenessNext(), 1);
        post.setBudget(33);
        Check.due("with 33", post.coarsenessNext(), 2);
    }

    // ---- 7: "pictures: 1 to 20", "Throws IllegalArgumentException if pictures is out of range"

    static void promise07_1_isTheLeast() {
        MotionPost post = new MotionPost();
        Check.due("setKeyDistance", post.setKeyDistance(1), 8);
        Check.due("setKeyDistance again", post.setKeyDistance(8), 1);
    }

    static void promise07_20_isTheGreatest() {
        MotionPost post = new MotionPost();
        Check.due("setKeyDistance", post.setKeyDistance(20), 8);
        Check.due("setKeyDistance again", post.setKeyDistance(8), 20);
    }

    static void promise07_0_throwsIllegalArgument() {
        outOfRange(x -> x.setKeyDistance(0));
    }

    static void promise07_21_throwsIllegalArgument() {
        outOfRange(x -> x.setKeyDistance(21));
    }

    static void promise07_minus1_throwsIllegalArgument() {
        outOfRange(x -> x.setKeyDistance(-1));
    }

    static void promise07_leastInt_throwsIllegalArgument() {
        outOfRange(x -> x.setKeyDistance(Integer.MIN_VALUE));
    }

    static void promise07_greatestInt_throwsIllegalArgument() {
        outOfRange(x -> x.setKeyDistance(Integer.MAX_VALUE));
    }

    // ---- 7: "Returns the previous key distance.", "This is a change."

    static void promise07_sameKeyDistance_isAChangeToo() {
        MotionPost post = new MotionPost();
        Check.due("setKeyDistance", post.setKeyDistance(8), 8);
        Check.due("undoCount", post.undoCount(), 1);
    }

    static void promise07_otherKeyDistance_countsFromPicture0NotFromTheLastKey() {
        MotionPost post = Made.afterPictures(10);
        post.setKeyDistance(6);
        Check.due("picture 10", post.send(false), 4);
        Check.due("picture 11", post.send(false), 4);
        Check.due("picture 12", post.send(false), 264);
    }
}
