import java.util.function.Function;

/** The edges of promises 1 to 4. */
public final class EdgesOfDrawingTest {
    public static void main(String[] args) throws IllegalAccessException {
        Check.runEach(EdgesOfDrawingTest.class);
    }

    private static void noSuch(Function<MotionPost, ?> call) {
        Check.refused("the call", Made::used, IndexOutOfBoundsException.class, call);
    }

    private static void outOfRange(Function<MotionPost, ?> call) {
        Check.refused("the call", Made::used, IllegalArgumentException.class, call);
    }

    /** Compares the drawn picture with 64 digits to the base 16, in rows that are told one by one. */
    private static void drawnIs(MotionPost post, String... rows) {
        for (int row = 0; row < 8; row++) {
            StringBuilder got = new StringBuilder();
            for (int column = 0; column < 8; column++) {
                got.append(Integer.toHexString(post.drawnAt(8 * row + column)));
            }
            Check.due("the drawn row " + row, got.toString(), rows[row]);
        }
    }

    // ---- 1: "Creates a sender and a receiver with pictures that are 0 everywhere."

    static void promise01_drawnPicture_is0Everywhere() {
        MotionPost post = new MotionPost();
        for (int pixel = 0; pixel < 64; pixel++) {
            Check.due("drawnAt " + pixel, post.drawnAt(pixel), 0);
        }
    }

    static void promise01_pictureSentLast_is0Everywhere() {
        MotionPost post = new MotionPost();
        for (int pixel = 0; pixel < 64; pixel++) {
            Check.due("sentAt " + pixel, post.sentAt(pixel), 0);
        }
    }

    static void promise01_receivedPicture_is0Everywhere() {
        MotionPost post = new MotionPost();
        for (int pixel = 0; pixel < 64; pixel++) {
            Check.due("receivedAt " + pixel, post.receivedAt(pixel), 0);
        }
    }

    static void promise01_nothingWasSent() {
        MotionPost post = new MotionPost();
        Check.due("pictureCount", post.pictureCount(), 0);
        Check.due("lostCount", post.lostCount(), 0);
        Check.due("bitCount", post.bitCount(), 0);
    }

    static void promise01_firstBudget_is120() {
        Check.due("setBudget", new MotionPost().setBudget(4), 120);
    }

    static void promise01_firstKeyDistance_is8() {
        Check.due("setKeyDistance", new MotionPost().setKeyDistance(1), 8);
    }

    static void promise01_text_isEmpty() {
        Check.due("textLength", new MotionPost().textLength(), 0);
    }

    static void promise01_history_isEmpty() {
        Check.due("undoCount", new MotionPost().undoCount(), 0);
    }

    static void promise01_slot0_isEmpty() {
        Check.refused("loadState", MotionPost::new, IllegalStateException.class, x -> x.loadState(0));
    }

    static void promise01_slot1_isEmpty() {
        Check.refused("loadState", MotionPost::new, IllegalStateException.class, x -> x.loadState(1));
    }

    static void promise01_secondObject_knowsNothingOfTheFirst() {
        String fresh = Check.seen(new MotionPost());
        Made.used();
        Check.due("a new object behind a used one", Check.seen(new MotionPost()), fresh);
    }

    // ---- 2: "Throws IndexOutOfBoundsException if there is no such pixel"

    static void promise02_pixel0_isTheFirst() {
        MotionPost post = new MotionPost();
        Check.due("draw", post.draw(0, 7), 0);
        drawnIs(post, "70000000", "00000000", "00000000", "00000000", "00000000", "00000000", "00000000", "00000000");
    }

    static void promise02_pixel63_isTheLast() {
        MotionPost post = new MotionPost();
        Check.due("draw", post.draw(63, 7), 0);
        drawnIs(post, "00000000", "00000000", "00000000", "00000000", "00000000", "00000000", "00000000", "00000007");
    }

    static void promise02_pixelMinus1_throwsIndexOutOfBounds() {
        noSuch(x -> x.draw(-1, 0));
    }

    static void promise02_pixel64_throwsIndexOutOfBounds() {
        noSuch(x -> x.draw(64, 0));
    }

    static void promise02_leastInt_throwsIndexOutOfBounds() {
        noSuch(x -> x.draw(Integer.MIN_VALUE, 0));
    }

    static void promise02_greatestInt_throwsIndexOutOfBounds() {
        noSuch(x -> x.draw(Integer.MAX_VALUE, 0));
    }

    // ---- 2: "value: 0 to 15", "Throws IllegalArgumentException if value is out of range"

    static void promise02_value0_isAllowed() {
        MotionPost post = Made.even(15);
        Check.due("draw", post.draw(20, 0), 15);
        Check.due("drawnAt", post.drawnAt(20), 0);
    }

    static void promise02_value15_isAllowed() {
        MotionPost post = new MotionPost();
        Check.due("draw", post.draw(20, 15), 0);
        Check.due("drawnAt", post.drawnAt(20), 15);
    }

    static void promise02_valueMinus1_throwsIllegalArgument() {
        outOfRange(x -> x.draw(0, -1));
    }

    static void promise02_value16_throwsIllegalArgument() {
        outOfRange(x -> x.draw(0, 16));
    }

    static void promise02_leastIntAsValue_throwsIllegalArgument() {
        outOfRange(x -> x.draw(63, Integer.MIN_VALUE));
    }

    static void promise02_greatestIntAsValue_throwsIllegalArgument() {
        outOfRange(x -> x.draw(63, Integer.MAX_VALUE));
    }

    static void promise02_pixelBelowAndValueAbove_throwsIndexOutOfBoundsFirst() {
        noSuch(x -> x.draw(-1, 16));
    }

    static void promise02_pixelAboveAndValueBelow_throwsIndexOutOfBoundsFirst() {
        noSuch(x -> x.draw(64, -1));
    }

    // ---- 2: "Returns the previous value.", "This is a change."

    static void promise02_drawnTwice_returnsTheFirstOfBothValues() {
        MotionPost post = new MotionPost();
        post.draw(20, 15);
        Check.due("draw", post.draw(20, 1), 15);
    }

    static void promise02_sameValue_isAChangeToo() {
        MotionPost post = new MotionPost();
        Check.due("draw", post.draw(20, 0), 0);
        Check.due("undoCount", post.undoCount(), 1);
    }

    static void promise02_otherPictures_stay() {
        MotionPost post = new MotionPost();
        post.draw(20, 15);
        Check.due("sentAt", post.sentAt(20), 0);
        Check.due("receivedAt", post.receivedAt(20), 0);
    }

    // ---- 3: "Throws IndexOutOfBoundsException if there is no such pixel"

    static void promise03_pixel0_isTheFirst() {
        Check.due("fill", new MotionPost().fill(0, 1, 1, 1), 1);
    }

    static void promise03_pixel63_isTheLast() {
        Check.due("fill", new MotionPost().fill(63, 1, 1, 1), 1);
    }

    static void promise03_pixelMinus1_throwsIndexOutOfBounds() {
        noSuch(x -> x.fill(-1, 8, 8, 1));
    }

    static void promise03_pixel64_throwsIndexOutOfBounds() {
        noSuch(x -> x.fill(64, 1, 1, 1));
    }

    static void promise03_leastInt_throwsIndexOutOfBounds() {
        noSuch(x -> x.fill(Integer.MIN_VALUE, 1, 1, 1));
    }

    static void promise03_greatestInt_throwsIndexOutOfBounds() {
        noSuch(x -> x.fill(Integer.MAX_VALUE, 1, 1, 1));
    }

    // ---- 3: "height: 1 to 8", "width: 1 to 8", "value: 0 to 15", "Throws IllegalArgumentException if .. out of range"

    static void promise03_height1_isOneRow() {
        MotionPost post = new MotionPost();
        Check.due("fill", post.fill(9, 1, 3, 5), 3);
        drawnIs(post, "00000000", "05550000", "00000000", "00000000", "00000000", "00000000", "00000000", "00000000");
    }

    static void promise03_height8_isAllRows() {
        MotionPost post = new MotionPost();
        Check.due("fill", post.fill(1, 8, 1, 5), 8);
        drawnIs(post, "05000000", "05000000", "05000000", "05000000", "05000000", "05000000", "05000000", "05000000");
    }

    static void promise03_height0_throwsIllegalArgument() {
        outOfRange(x -> x.fill(0, 0, 1, 1));
    }

    static void promise03_height9_throwsIllegalArgument() {
        outOfRange(x -> x.fill(0, 9, 1, 1));
    }

    static void promise03_heightMinus1_throwsIllegalArgument() {
        outOfRange(x -> x.fill(0, -1, 1, 1));
    }

    static void promise03_leastIntAsHeight_throwsIllegalArgument() {
        outOfRange(x -> x.fill(0, Integer.MIN_VALUE, 1, 1));
    }

    static void promise03_greatestIntAsHeight_throwsIllegalArgument() {
        outOfRange(x -> x.fill(0, Integer.MAX_VALUE, 1, 1));
    }

    static void promise03_width1_isOneColumn() {
        MotionPost post = new MotionPost();
        Check.due("fill", post.fill(9, 3, 1, 5), 3);
        drawnIs(post, "00000000", "05000000", "05000000", "05000000", "00000000", "00000000", "00000000", "00000000");
    }

    static void promise03_width8_isAllColumns() {
        MotionPost post = new MotionPost();
        Check.due("fill", post.fill(8, 1, 8, 5), 8);
        drawnIs(post, "00000000", "55555555", "00000000", "00000000", "00000000", "00000000", "00000000", "00000000");
    }

    static void promise03_width0_throwsIllegalArgument() {
        outOfRange(x -> x.fill(0, 1, 0, 1));
    }

    static void promise03_width9_throwsIllegalArgument() {
        outOfRange(x -> x.fill(0, 1, 9, 1));
    }

    static void promise03_widthMinus1_throwsIllegalArgument() {
        outOfRange(x -> x.fill(0, 1, -1, 1));
    }

    static void promise03_leastIntAsWidth_throwsIllegalArgument() {
        outOfRange(x -> x.fill(0, 1, Integer.MIN_VALUE, 1));
    }

    static void promise03_greatestIntAsWidth_throwsIllegalArgument() {
        outOfRange(x -> x.fill(0, 1, Integer.MAX_VALUE, 1));
    }

    static void promise03_value0_isAllowed() {
        Check.due("fill", Made.even(15).fill(0, 1, 1, 0), 1);
    }

    static void promise03_value15_isAllowed() {
        Check.due("fill", new MotionPost().fill(0, 1, 1, 15), 1);
    }

    static void promise03_valueMinus1_throwsIllegalArgument() {
        outOfRange(x -> x.fill(0, 1, 1, -1));
    }

    static void promise03_value16_throwsIllegalArgument() {
        outOfRange(x -> x.fill(0, 1, 1, 16));
    }

    static void promise03_leastIntAsValue_throwsIllegalArgument() {
        outOfRange(x -> x.fill(0, 1, 1, Integer.MIN_VALUE));
    }

    static void promise03_greatestIntAsValue_throwsIllegalArgument() {
        outOfRange(x -> x.fill(0, 1, 1, Integer.MAX_VALUE));
    }

    static void promise03_wrongPixelAndHeight_throwsIndexOutOfBoundsFirst() {
        noSuch(x -> x.fill(64, 0, 1, 1));
    }

    static void promise03_wrongPixelAndWidth_throwsIndexOutOfBoundsFirst() {
        noSuch(x -> x.fill(-1, 1, 9, 1));
    }

    static void promise03_wrongPixelAndValue_throwsIndexOutOfBoundsFirst() {
        noSuch(x -> x.fill(-1, 1, 1, 16));
    }

    // ---- 3: "from a pixel on to the right and down, as far as it is in the picture"

    static void promise03_wholePicture_isFilled() {
        MotionPost post = new MotionPost();
        Check.due("fill", post.fill(0, 8, 8, 15), 64);
        drawnIs(post, "ffffffff", "ffffffff", "ffffffff", "ffffffff", "ffffffff", "ffffffff", "ffffffff", "ffffffff");
    }

    static void promise03_justFittingAtTheLowerRight_isNotCut() {
        MotionPost post = new MotionPost();
        Check.due("fill", post.fill(45, 3, 3, 4), 9);
        drawnIs(post, "00000000", "00000000", "00000000", "00000000", "00000000", "00000444", "00000444", "00000444");
    }

    static void promise03_oneColumnTooWide_isCutAndDoesNotGoOnInTheNextRow() {
        MotionPost post = new MotionPost();
        Check.due("fill", post.fill(13, 2, 4, 4), 6);
        drawnIs(post, "00000000", "00000444", "00000444", "00000000", "00000000", "00000000", "00000000", "00000000");
    }

    static void promise03_oneRowTooHigh_isCutAndDoesNotGoOnAtTheTop() {
        MotionPost post = new MotionPost();
        Check.due("fill", post.fill(42, 4, 2, 4), 6);
        drawnIs(post, "00000000", "00000000", "00000000", "00000000", "00000000", "00440000", "00440000", "00440000");
    }

    static void promise03_lastPixelWithGreatestSize_isOnePixel() {
        MotionPost post = new MotionPost();
        Check.due("fill", post.fill(63, 8, 8, 4), 1);
        drawnIs(post, "00000000", "00000000", "00000000", "00000000", "00000000", "00000000", "00000000", "00000004");
    }

    static void promise03_lastColumnWithGreatestSize_isOneColumn() {
        MotionPost post = new MotionPost();
        Check.due("fill", post.fill(7, 8, 8, 4), 8);
        drawnIs(post, "00000004", "00000004", "00000004", "00000004", "00000004", "00000004", "00000004", "00000004");
    }

    static void promise03_lastRowWithGreatestSize_isOneRow() {
        MotionPost post = new MotionPost();
        Check.due("fill", post.fill(56, 8, 8, 4), 8);
        drawnIs(post, "00000000", "00000000", "00000000", "00000000", "00000000", "00000000", "00000000", "44444444");
    }

    // ---- 3: "Returns how many pixels get another value.", "This is a change."

    static void promise03_pixelsThatHaveTheValue_areNotCounted() {
        MotionPost post = new MotionPost();
        post.fill(0, 2, 2, 4);
        Check.due("fill", post.fill(0, 3, 3, 4), 5);
    }

    static void promise03_allHaveTheValue_returns0AndIsAChangeToo() {
        MotionPost post = new MotionPost();
        Check.due("fill", post.fill(0, 8, 8, 0), 0);
        Check.due("undoCount", post.undoCount(), 1);
    }

    // ---- 4: "down: -2 to 2", "right: -2 to 2", "rows and columns beyond the edges are taken to be those at the edges"

    static void promise04_down2_takesRow7ForRows8And9() {
        MotionPost post = Made.slope(1, 0, 0);
        Check.due("scroll", post.scroll(2, 0), 56);
        drawnIs(post, "22222222", "33333333", "44444444", "55555555", "66666666", "77777777", "77777777", "77777777");
    }

    static void promise04_down1_takesRow7ForRow8() {
        MotionPost post = Made.slope(1, 0, 0);
        Check.due("scroll", post.scroll(1, 0), 56);
        drawnIs(post, "11111111", "22222222", "33333333", "44444444", "55555555", "66666666", "77777777", "77777777");
    }

    static void promise04_downMinus1_takesRow0ForRowMinus1() {
        MotionPost post = Made.slope(1, 0, 0);
        Check.due("scroll", post.scroll(-1, 0), 56);
        drawnIs(post, "00000000", "00000000", "11111111", "22222222", "33333333", "44444444", "55555555", "66666666");
    }

    static void promise04_downMinus2_takesRow0ForRowsMinus1AndMinus2() {
        MotionPost post = Made.slope(-1, 0, 15);
        Check.due("scroll", post.scroll(-2, 0), 56);
        drawnIs(post, "ffffffff", "ffffffff", "ffffffff", "eeeeeeee", "dddddddd", "cccccccc", "bbbbbbbb", "aaaaaaaa");
    }

    static void promise04_right2_takesColumn7ForColumns8And9() {
        MotionPost post = Made.slope(0, 1, 0);
        Check.due("scroll", post.scroll(0, 2), 56);
        drawnIs(post, "23456777", "23456777", "23456777", "23456777", "23456777", "23456777", "23456777", "23456777");
    }

    static void promise04_right1_takesColumn7ForColumn8() {
        MotionPost post = Made.slope(0, 1, 0);
        Check.due("scroll", post.scroll(0, 1), 56);
        drawnIs(post, "12345677", "12345677", "12345677", "12345677", "12345677", "12345677", "12345677", "12345677");
    }

    static void promise04_rightMinus1_takesColumn0ForColumnMinus1() {
        MotionPost post = Made.slope(0, 1, 0);
        Check.due("scroll", post.scroll(0, -1), 56);
        drawnIs(post, "00123456", "00123456", "00123456", "00123456", "00123456", "00123456", "00123456", "00123456");
    }

    static void promise04_rightMinus2_takesColumn0ForColumnsMinus1AndMinus2() {
        MotionPost post = Made.slope(0, -1, 15);
        Check.due("scroll", post.scroll(0, -2), 56);
        drawnIs(post, "fffedcba", "fffedcba", "fffedcba", "fffedcba", "fffedcba", "fffedcba", "fffedcba", "fffedcba");
    }

    private static MotionPost corners() {
        MotionPost post = new MotionPost();
        post.draw(0, 1);
        post.draw(7, 2);
        post.draw(56, 3);
        post.draw(63, 4);
        return post;
    }

    static void promise04_upperLeftCorner_isTakenBeyondBothEdges() {
        MotionPost post = corners();
        Check.due("scroll", post.scroll(-2, -2), 11);
        drawnIs(post, "11100000", "11100000", "11100000", "00000000", "00000000", "00000000", "00000000", "00000000");
    }

    static void promise04_upperRightCorner_isTakenBeyondBothEdges() {
        MotionPost post = corners();
        Check.due("scroll", post.scroll(-2, 2), 11);
        drawnIs(post, "00000222", "00000222", "00000222", "00000000", "00000000", "00000000", "00000000", "00000000");
    }

    static void promise04_lowerLeftCorner_isTakenBeyondBothEdges() {
        MotionPost post = corners();
        Check.due("scroll", post.scroll(2, -2), 11);
        drawnIs(post, "00000000", "00000000", "00000000", "00000000", "00000000", "33300000", "33300000", "33300000");
    }

    static void promise04_lowerRightCorner_isTakenBeyondBothEdges() {
        MotionPost post = corners();
        Check.due("scroll", post.scroll(2, 2), 11);
        drawnIs(post, "00000000", "00000000", "00000000", "00000000", "00000000", "00000444", "00000444", "00000444");
    }

    static void promise04_down3_throwsIllegalArgument() {
        outOfRange(x -> x.scroll(3, 0));
    }

    static void promise04_downMinus3_throwsIllegalArgument() {
        outOfRange(x -> x.scroll(-3, 0));
    }

    static void promise04_right3_throwsIllegalArgument() {
        outOfRange(x -> x.scroll(0, 3));
    }

    static void promise04_rightMinus3_throwsIllegalArgument() {
        outOfRange(x -> x.scroll(0, -3));
    }

    static void promise04_leastIntDown_throwsIllegalArgument() {
        outOfRange(x -> x.scroll(Integer.MIN_VALUE, 0));
    }

    static void promise04_greatestIntDown_throwsIllegalArgument() {
        outOfRange(x -> x.scroll(Integer.MAX_VALUE, 0));
    }

    static void promise04_leastIntRight_throwsIllegalArgument() {
        outOfRange(x -> x.scroll(0, Integer.MIN_VALUE));
    }

    static void promise04_greatestIntRight_throwsIllegalArgument() {
        outOfRange(x -> x.scroll(0, Integer.MAX_VALUE));
    }

    static void promise04_bothOutOfRange_throwsIllegalArgument() {
        outOfRange(x -> x.scroll(3, -3));
    }

    // ---- 4: "Returns how many pixels get another value.", "This is a change."

    static void promise04_noStep_returns0AndIsAChangeToo() {
        MotionPost post = new MotionPost();
        post.draw(20, 5);
        Check.due("scroll", post.scroll(0, 0), 0);
        Check.due("drawnAt", post.drawnAt(20), 5);
        Check.due("undoCount", post.undoCount(), 2);
    }

    static void promise04_evenPicture_returns0AndIsAChangeToo() {
        MotionPost post = new MotionPost();
        Check.due("scroll", post.scroll(2, -2), 0);
        Check.due("undoCount", post.undoCount(), 1);
    }

    static void promise04_mostPixelsThatCanGetAnotherValue_are63() {
        MotionPost post = Made.slope(1, 1, 0);
        Check.due("scroll", post.scroll(1, 1), 63);
    }

    static void promise04_otherPictures_stay() {
        MotionPost post = Made.slope(1, 0, 0);
        post.scroll(2, 0);
        Check.due("sentAt 0", post.sentAt(0), 0);
        Check.due("sentAt 63", post.sentAt(63), 7);
        Check.due("receivedAt 0", post.receivedAt(0), 0);
        Check.due("receivedAt 63", post.receivedAt(63), 7);
    }
}
