import java.util.function.Function;

/** The edges of promises 8 to 12. */
public final class EdgesOfPicturesTest {
    public static void main(String[] args) throws IllegalAccessException {
        Check.runEach(EdgesOfPicturesTest.class);
    }

    private static void noSuch(Function<MotionPost, ?> call) {
        Check.refused("the call", Made::used, IndexOutOfBoundsException.class, call);
    }

    private static void noChange(Function<MotionPost, ?> call) {
        Check.altersNothing("the call", Made::used, call);
    }

    /** Received: 1 to 4 in the corners. Sent last: 5 to 8. Drawn: 9 to 12. */
    private static MotionPost corners() {
        MotionPost post = new MotionPost();
        post.setKeyDistance(1);
        drawCorners(post, 1);
        post.send(false);
        drawCorners(post, 5);
        post.send(true);
        drawCorners(post, 9);
        return post;
    }

    private static void drawCorners(MotionPost post, int first) {
        post.draw(0, first);
        post.draw(7, first + 1);
        post.draw(56, first + 2);
        post.draw(63, first + 3);
    }

    // ---- 8: "Returns the drawn value of a pixel.", "Throws IndexOutOfBoundsException if there is no such pixel"

    static void promise08_pixel0_isTheFirst() {
        Check.due("drawnAt", corners().drawnAt(0), 9);
    }

    static void promise08_pixel7_isTheLastOfTheFirstRow() {
        Check.due("drawnAt", corners().drawnAt(7), 10);
    }

    static void promise08_pixel56_isTheFirstOfTheLastRow() {
        Check.due("drawnAt", corners().drawnAt(56), 11);
    }

    static void promise08_pixel63_isTheLast() {
        Check.due("drawnAt", corners().drawnAt(63), 12);
    }

    static void promise08_pixelMinus1_throwsIndexOutOfBounds() {
        noSuch(x -> x.drawnAt(-1));
    }

    static void promise08_pixel64_throwsIndexOutOfBounds() {
        noSuch(x -> x.drawnAt(64));
    }

    static void promise08_leastInt_throwsIndexOutOfBounds() {
        noSuch(x -> x.drawnAt(Integer.MIN_VALUE));
    }

    static void promise08_greatestInt_throwsIndexOutOfBounds() {
        noSuch(x -> x.drawnAt(Integer.MAX_VALUE));
    }

    static void promise08_isNoChange() {
        noChange(x -> x.drawnAt(0));
    }

    // ---- 9: "Returns the value of a pixel in the picture sent last.", "Throws .. if there is no such pixel"

    static void promise09_pixel0_isTheFirst() {
        Check.due("sentAt", corners().sentAt(0), 5);
    }

    static void promise09_pixel7_isTheLastOfTheFirstRow() {
        Check.due("sentAt", corners().sentAt(7), 6);
    }

    static void promise09_pixel56_isTheFirstOfTheLastRow() {
        Check.due("sentAt", corners().sentAt(56), 7);
    }

    static void promise09_pixel63_isTheLast() {
        Check.due("sentAt", corners().sentAt(63), 8);
    }

    static void promise09_pixelMinus1_throwsIndexOutOfBounds() {
        noSuch(x -> x.sentAt(-1));
    }

    static void promise09_pixel64_throwsIndexOutOfBounds() {
        noSuch(x -> x.sentAt(64));
    }

    static void promise09_leastInt_throwsIndexOutOfBounds() {
        noSuch(x -> x.sentAt(Integer.MIN_VALUE));
    }

    static void promise09_greatestInt_throwsIndexOutOfBounds() {
        noSuch(x -> x.sentAt(Integer.MAX_VALUE));
    }

    static void promise09_nothingSent_is0() {
        MotionPost post = new MotionPost();
        post.fill(0, 8, 8, 15);
        Check.due("sentAt", post.sentAt(63), 0);
    }

    static void promise09_isNoChange() {
        noChange(x -> x.sentAt(0));
    }

    // ---- 10: "Returns the value of a pixel in the receiver's picture.", "Throws .. if there is no such pixel"

    static void promise10_pixel0_isTheFirst() {
        Check.due("receivedAt", corners().receivedAt(0), 1);
    }

    static void promise10_pixel7_isTheLastOfTheFirstRow() {
        Check.due("receivedAt", corners().receivedAt(7), 2);
    }

    static void promise10_pixel56_isTheFirstOfTheLastRow() {
        Check.due("receivedAt", corners().receivedAt(56), 3);
    }

    static void promise10_pixel63_isTheLast() {
        Check.due("receivedAt", corners().receivedAt(63), 4);
    }

    static void promise10_pixelMinus1_throwsIndexOutOfBounds() {
        noSuch(x -> x.receivedAt(-1));
    }

    static void promise10_pixel64_throwsIndexOutOfBounds() {
        noSuch(x -> x.receivedAt(64));
    }

    static void promise10_leastInt_throwsIndexOutOfBounds() {
        noSuch(x -> x.receivedAt(Integer.MIN_VALUE));
    }

    static void promise10_greatestInt_throwsIndexOutOfBounds() {
        noSuch(x -> x.receivedAt(Integer.MAX_VALUE));
    }

    static void promise10_allPicturesLost_is0() {
        MotionPost post = new MotionPost();
        post.fill(0, 8, 8, 15);
        post.send(true);
        Check.due("receivedAt", post.receivedAt(63), 0);
    }

    static void promise10_isNoChange() {
        noChange(x -> x.receivedAt(0));
    }

    // ---- 11: "the sum of the squares of the differences between the drawn picture and the one sent last"

    static void promise11_samePictures_is0() {
        MotionPost post = new MotionPost();
        Check.due("error", post.error(), 0);
        post.fill(0, 8, 8, 15);
        post.send(true);
        Check.due("error", post.error(), 0);
    }

    static void promise11_leastDifferenceInTheFirstPixel_is1() {
        MotionPost post = new MotionPost();
        post.draw(0, 1);
        Check.due("error", post.error(), 1);
    }

    static void promise11_leastDifferenceInTheLastPixel_is1() {
        MotionPost post = Made.even(15);
        post.draw(63, 14);
        Check.due("error", post.error(), 1);
    }

    static void promise11_differencesOfBothSigns_doNotCancelOut() {
        MotionPost post = Made.even(7);
        post.draw(0, 9);
        post.draw(1, 5);
        Check.due("error", post.error(), 8);
    }

    static void promise11_greatestDifferenceEverywhere_is14400() {
        MotionPost more = new MotionPost();
        more.fill(0, 8, 8, 15);
        Check.due("error, drawn more", more.error(), 64 * 15 * 15);
        MotionPost less = Made.even(15);
        less.fill(0, 8, 8, 0);
        Check.due("error, drawn less", less.error(), 64 * 15 * 15);
    }

    static void promise11_receivedPicture_doesNotCount() {
        MotionPost post = new MotionPost();
        post.draw(0, 15);
        post.send(true);
        Check.due("error", post.error(), 0);
    }

    static void promise11_isNoChange() {
        noChange(x -> x.error());
    }

    // ---- 12: "the sum of the differences, without regard to signs, between the picture sent last and the receiver's"

    static void promise12_samePictures_is0() {
        Check.due("drift at first", new MotionPost().drift(), 0);
        Check.due("drift behind a key", Made.even(15).drift(), 0);
    }

    private static int drift(int received, int pixel, int sent, int otherPixel, int otherSent) {
        MotionPost post = Made.even(received);
        post.draw(pixel, sent);
        post.draw(otherPixel, otherSent);
        post.setKeyDistance(1);
        post.send(true);
        return post.drift();
    }

    static void promise12_leastDifferenceInTheFirstPixel_is1() {
        Check.due("drift", drift(0, 0, 1, 0, 1), 1);
    }

    static void promise12_leastDifferenceInTheLastPixel_is1() {
        Check.due("drift", drift(15, 63, 14, 63, 14), 1);
    }

    static void promise12_differencesOfBothSigns_doNotCancelOut() {
        Check.due("drift", drift(7, 0, 9, 1, 4), 5);
    }

    static void promise12_greatestDifferenceEverywhere_is960() {
        MotionPost more = new MotionPost();
        more.fill(0, 8, 8, 15);
        more.send(true);
        Check.due("drift, sent more", more.drift(), 64 * 15);
        MotionPost less = Made.even(15);
        less.fill(0, 8, 8, 0);
        less.send(true);
        Check.due("drift, sent less", less.drift(), 64 * 15);
    }

    static void promise12_drawnPicture_doesNotCount() {
        MotionPost post = new MotionPost();
        post.fill(0, 8, 8, 15);
        Check.due("drift", post.drift(), 0);
    }

    static void promise12_isNoChange() {
        noChange(x -> x.drift());
    }
}
