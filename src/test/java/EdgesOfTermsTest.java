import java.util.function.Function;

/** The edges that the paragraphs of the document's terms name. */
public final class EdgesOfTermsTest {
    public static void main(String[] args) throws IllegalAccessException {
        Check.runEach(EdgesOfTermsTest.class);
    }

    // ---- "An object is used for at most 512 calls after it has been made"

    static void terms_object_answersUpToItsCall512() {
        MotionPost post = new MotionPost();
        for (int call = 1; call < 512; call++) {
            Check.due("call " + call, post.draw(0, call % 16), (call - 1) % 16);
        }
        Check.due("call 512", post.drawnAt(0), 511 % 16);
    }

    // ---- Numbers: "8 * row + column", "The block b, 0 to 3, consists of the 4 rows from .. and the 4 columns from .."

    static void terms_numbers_pixel7EndsRow0AndPixel8BeginsRow1() {
        MotionPost post = new MotionPost();
        Check.due("fill from 7", post.fill(7, 2, 2, 5), 2);
        Check.due("row 0, column 7", post.drawnAt(7), 5);
        Check.due("row 1, column 0", post.drawnAt(8), 0);
        Check.due("row 1, column 7", post.drawnAt(15), 5);
    }

    /** Which of the blocks, in which all pixels are 0 in the picture sent last, differ from what is drawn. */
    private static String blocksWith(int pixel) {
        MotionPost post = new MotionPost();
        post.draw(pixel, 1);
        StringBuilder blocks = new StringBuilder();
        for (int block = 0; block < 4; block++) {
            blocks.append(post.distance(block, 12));
        }
        return blocks.toString();
    }

    static void terms_numbers_cornersOfBlock0() {
        for (int pixel : new int[] {0, 3, 24, 27}) {
            Check.due("pixel " + pixel, blocksWith(pixel), "1000");
        }
    }

    static void terms_numbers_cornersOfBlock1() {
        for (int pixel : new int[] {4, 7, 28, 31}) {
            Check.due("pixel " + pixel, blocksWith(pixel), "0100");
        }
    }

    static void terms_numbers_cornersOfBlock2() {
        for (int pixel : new int[] {32, 35, 56, 59}) {
            Check.due("pixel " + pixel, blocksWith(pixel), "0010");
        }
    }

    static void terms_numbers_cornersOfBlock3() {
        for (int pixel : new int[] {36, 39, 60, 63}) {
            Check.due("pixel " + pixel, blocksWith(pixel), "0001");
        }
    }

    // ---- Numbers: "Divisions of whole numbers are cut off toward 0."

    /** What is sent for a pixel if it was sent with one value before, another is drawn, and the budget is so small. */
    private static int sentFor(int before, int drawn, int budget, int coarseness) {
        MotionPost post = Made.even(before);
        post.draw(0, drawn);
        post.setBudget(budget);
        Check.due("coarsenessNext", post.coarsenessNext(), coarseness);
        post.send(false);
        return post.sentAt(0);
    }

    static void terms_numbers_positiveLevel_isCutOffToward0() {
        Check.due("sentAt", sentFor(0, 15, 32, 2), 14);
    }

    static void terms_numbers_negativeLevel_isCutOffToward0() {
        Check.due("sentAt", sentFor(15, 0, 32, 2), 1);
    }

    static void terms_numbers_positiveDifferenceLessThanTheCoarseness_isLevel0() {
        Check.due("sentAt", sentFor(0, 7, 4, 8), 0);
    }

    static void terms_numbers_negativeDifferenceLessThanTheCoarseness_isLevel0() {
        Check.due("sentAt", sentFor(15, 8, 4, 8), 15);
    }

    static void terms_numbers_positiveDifferenceLikeTheCoarseness_isLevel1() {
        Check.due("sentAt", sentFor(0, 8, 4, 8), 8);
    }

    static void terms_numbers_negativeDifferenceLikeTheCoarseness_isLevelMinus1() {
        Check.due("sentAt", sentFor(15, 7, 4, 8), 7);
    }

    // ---- Pictures: "all are 0 everywhere at first"

    static void terms_pictures_are0EverywhereAtFirst() {
        MotionPost post = new MotionPost();
        for (int pixel = 0; pixel < 64; pixel++) {
            Check.due("pixel " + pixel, post.drawnAt(pixel) + post.sentAt(pixel) + post.receivedAt(pixel), 0);
        }
    }

    // ---- Moves: "dy and dx, both -2 to 2, and the number 5 * (dy + 2) + dx + 2, 0 to 24; 12 is no move"

    /** The sum of the predictions of a block: its distance by a move if 0 is drawn everywhere. */
    private static int predicted(MotionPost post, int block, int move) {
        post.fill(0, 8, 8, 0);
        return post.distance(block, move);
    }

    /** One pixel is 1 in the picture sent last: the blocks tell how many of their pixels are predicted from it. */
    private static String taken(int pixel, int move) {
        MotionPost post = new MotionPost();
        post.draw(pixel, 1);
        post.send(false);
        post.fill(0, 8, 8, 0);
        return "" + post.distance(0, move) + post.distance(1, move) + post.distance(2, move) + post.distance(3, move);
    }

    static void terms_moves_move12_isNoMove() {
        Check.due("pixel 27", taken(27, 12), "1000");
        Check.due("pixel 28", taken(28, 12), "0100");
        Check.due("pixel 35", taken(35, 12), "0010");
        Check.due("pixel 36", taken(36, 12), "0001");
    }

    static void terms_moves_move0_takesFromTwoUpAndTwoLeft() {
        Check.due("pixel 17, for pixel 35 of block 2", taken(17, 0), "0010");
        Check.due("pixel 18, for pixel 36 of block 3", taken(18, 0), "0001");
        Check.due("pixel 10, for pixel 28 of block 1", taken(10, 0), "0100");
        Check.due("pixel 9, for pixel 27 of block 0", taken(9, 0), "1000");
    }

    static void terms_moves_move4_takesFromTwoUpAndTwoRight() {
        Check.due("pixel 21, for pixel 35 of block 2", taken(21, 4), "0010");
        Check.due("pixel 22, for pixel 36 of block 3", taken(22, 4), "0001");
        Check.due("pixel 14, for pixel 28 of block 1", taken(14, 4), "0100");
        Check.due("pixel 13, for pixel 27 of block 0", taken(13, 4), "1000");
    }

    static void terms_moves_move20_takesFromTwoDownAndTwoLeft() {
        Check.due("pixel 49, for pixel 35 of block 2", taken(49, 20), "0010");
        Check.due("pixel 50, for pixel 36 of block 3", taken(50, 20), "0001");
        Check.due("pixel 42, for pixel 28 of block 1", taken(42, 20), "0100");
        Check.due("pixel 41, for pixel 27 of block 0", taken(41, 20), "1000");
    }

    static void terms_moves_move24_takesFromTwoDownAndTwoRight() {
        Check.due("pixel 53, for pixel 35 of block 2", taken(53, 24), "0010");
        Check.due("pixel 54, for pixel 36 of block 3", taken(54, 24), "0001");
        Check.due("pixel 46, for pixel 28 of block 1", taken(46, 24), "0100");
        Check.due("pixel 45, for pixel 27 of block 0", taken(45, 24), "1000");
    }

    // ---- Moves: "rows and columns less than 0 are taken to be 0, those greater than 7 to be 7"

    static void terms_moves_rowsMinus2AndMinus1_areRow0() {
        Check.due("rows 0 0 0 1", predicted(Made.slope(-1, 0, 15), 0, 2), 4 * (15 + 15 + 15 + 14));
    }

    static void terms_moves_rowMinus1_isRow0() {
        Check.due("rows 0 0 1 2", predicted(Made.slope(-1, 0, 15), 0, 7), 4 * (15 + 15 + 14 + 13));
    }

    static void terms_moves_rowsFrom2On_areNotAtTheUpperEdge() {
        Check.due("rows 2 3 4 5", predicted(Made.slope(-1, 0, 15), 2, 2), 4 * (13 + 12 + 11 + 10));
    }

    static void terms_moves_row8_isRow7() {
        Check.due("rows 5 6 7 7", predicted(Made.slope(1, 0, 8), 2, 17), 4 * (13 + 14 + 15 + 15));
    }

    static void terms_moves_rows8And9_areRow7() {
        Check.due("rows 6 7 7 7", predicted(Made.slope(1, 0, 8), 2, 22), 4 * (14 + 15 + 15 + 15));
    }

    static void terms_moves_rowsUpTo5_areNotAtTheLowerEdge() {
        Check.due("rows 2 3 4 5", predicted(Made.slope(1, 0, 8), 0, 22), 4 * (10 + 11 + 12 + 13));
    }

    static void terms_moves_columnsMinus2AndMinus1_areColumn0() {
        Check.due("columns 0 0 0 1", predicted(Made.slope(0, -1, 15), 2, 10), 4 * (15 + 15 + 15 + 14));
    }

    static void terms_moves_columnMinus1_isColumn0() {
        Check.due("columns 0 0 1 2", predicted(Made.slope(0, -1, 15), 2, 11), 4 * (15 + 15 + 14 + 13));
    }

    static void terms_moves_columnsFrom2On_areNotAtTheLeftEdge() {
        Check.due("columns 2 3 4 5", predicted(Made.slope(0, -1, 15), 1, 10), 4 * (13 + 12 + 11 + 10));
    }

    static void terms_moves_column8_isColumn7() {
        Check.due("columns 5 6 7 7", predicted(Made.slope(0, 1, 8), 1, 13), 4 * (13 + 14 + 15 + 15));
    }

    static void terms_moves_columns8And9_areColumn7() {
        Check.due("columns 6 7 7 7", predicted(Made.slope(0, 1, 8), 1, 14), 4 * (14 + 15 + 15 + 15));
    }

    static void terms_moves_columnsUpTo5_areNotAtTheRightEdge() {
        Check.due("columns 2 3 4 5", predicted(Made.slope(0, 1, 8), 2, 14), 4 * (10 + 11 + 12 + 13));
    }

    static void terms_moves_upperLeftCorner_isTakenBeyondBothEdges() {
        Check.due("pixel 0 by move 0", taken(0, 0), "9000");
    }

    static void terms_moves_upperRightCorner_isTakenBeyondBothEdges() {
        Check.due("pixel 7 by move 4", taken(7, 4), "0900");
    }

    static void terms_moves_lowerLeftCorner_isTakenBeyondBothEdges() {
        Check.due("pixel 56 by move 20", taken(56, 20), "0090");
    }

    static void terms_moves_lowerRightCorner_isTakenBeyondBothEdges() {
        Check.due("pixel 63 by move 24", taken(63, 24), "0009");
    }

    // ---- Moves: "the sum .. of the differences .. without regard to signs"

    static void terms_moves_differencesOfBothSigns_doNotCancelOut() {
        MotionPost post = Made.even(7);
        post.draw(0, 9);
        post.draw(1, 5);
        Check.due("distance", post.distance(0, 12), 4);
    }

    // ---- Levels: "A level takes bits: .. until it is 1, and 1, and 1 more if the level is not 0."

    /** The bits of one level; the block has 15 levels of 0 besides, and the 6 bits of a moved block. */
    private static int bitsOfLevel(int before, int drawn, int coarseness) {
        MotionPost post = Made.even(before);
        post.draw(0, drawn);
        // So that the level 0 does not make a still block: one level 1 more, with 4 bits, less one level 0.
        post.draw(1, before == 0 ? coarseness : 15 - coarseness);
        return post.bitsWith(0, coarseness) - 6 - 14 - 4;
    }

    static void terms_levels_level0_takes1Bit() {
        Check.due("bits", bitsOfLevel(0, 0, 1), 1);
    }

    static void terms_levels_level1_takes4Bits() {
        Check.due("bits", bitsOfLevel(0, 1, 1), 4);
    }

    static void terms_levels_level2_takes4Bits() {
        Check.due("bits", bitsOfLevel(0, 2, 1), 4);
    }

    static void terms_levels_level3_takes6Bits() {
        Check.due("bits", bitsOfLevel(0, 3, 1), 6);
    }

    static void terms_levels_level6_takes6Bits() {
        Check.due("bits", bitsOfLevel(0, 6, 1), 6);
    }

    static void terms_levels_level7_takes8Bits() {
        Check.due("bits", bitsOfLevel(0, 7, 1), 8);
    }

    static void terms_levels_level14_takes8Bits() {
        Check.due("bits", bitsOfLevel(0, 14, 1), 8);
    }

    static void terms_levels_level15_takes10Bits() {
        Check.due("bits", bitsOfLevel(0, 15, 1), 10);
    }

    static void terms_levels_levelMinus1_takes4Bits() {
        Check.due("bits", bitsOfLevel(15, 14, 1), 4);
    }

    static void terms_levels_levelMinus2_takes4Bits() {
        Check.due("bits", bitsOfLevel(15, 13, 1), 4);
    }

    static void terms_levels_levelMinus3_takes6Bits() {
        Check.due("bits", bitsOfLevel(15, 12, 1), 6);
    }

    static void terms_levels_levelMinus6_takes6Bits() {
        Check.due("bits", bitsOfLevel(15, 9, 1), 6);
    }

    static void terms_levels_levelMinus7_takes8Bits() {
        Check.due("bits", bitsOfLevel(15, 8, 1), 8);
    }

    static void terms_levels_levelMinus14_takes8Bits() {
        Check.due("bits", bitsOfLevel(15, 1, 1), 8);
    }

    static void terms_levels_levelMinus15_takes10Bits() {
        Check.due("bits", bitsOfLevel(15, 0, 1), 10);
    }

    static void terms_levels_coarseness8_makesLevel1OfDifferences8And15() {
        Check.due("bits of 7", bitsOfLevel(0, 7, 8), 1);
        Check.due("bits of 8", bitsOfLevel(0, 8, 8), 4);
        Check.due("bits of 15", bitsOfLevel(0, 15, 8), 4);
        Check.due("bits of -7", bitsOfLevel(15, 8, 8), 1);
        Check.due("bits of -8", bitsOfLevel(15, 7, 8), 4);
        Check.due("bits of -15", bitsOfLevel(15, 0, 8), 4);
    }

    // ---- Blocks: "1 bit, as still, if the move is 12 and all levels are 0"

    private static void kindIs(MotionPost post, int block, int coarseness, int kind, int bits) {
        Check.due("kindWith", post.kindWith(block, coarseness), kind);
        Check.due("bitsWith", post.bitsWith(block, coarseness), bits);
        Check.due("bitsByWriting", post.bitsByWriting(block, coarseness), bits);
    }

    static void terms_blocks_noMoveAndAllLevels0_isStillWith1Bit() {
        kindIs(Made.afterKey(), 0, 1, MotionPost.STILL, 1);
    }

    static void terms_blocks_allDifferencesLessThanTheCoarseness_isStillWith1Bit() {
        MotionPost post = Made.block(Made.values(16, 7, 0, 0));
        kindIs(post, 0, 8, MotionPost.STILL, 1);
    }

    static void terms_blocks_firstLevelNot0_isMoved() {
        kindIs(Made.block(1), 0, 1, MotionPost.MOVED, 25);
    }

    static void terms_blocks_lastLevelNot0_isMoved() {
        kindIs(Made.block(Made.values(15, 0, 1, 1)), 0, 1, MotionPost.MOVED, 25);
    }

    static void terms_blocks_onlyLevelMinus1_isMoved() {
        MotionPost post = Made.even(1);
        post.draw(0, 0);
        kindIs(post, 0, 1, MotionPost.MOVED, 25);
    }

    static void terms_blocks_otherMoveAndAllLevels0_isMovedWith22Bits() {
        MotionPost post = Made.scrolledBy(11);
        kindIs(post, 0, 1, MotionPost.MOVED, 22);
        kindIs(post, 3, 8, MotionPost.MOVED, 22);
    }

    // ---- Blocks: "as moved .. if the 6 and these are at most 66 together; otherwise, as raw, 66 bits"

    static void terms_blocks_65BitsTogether_isMoved() {
        MotionPost post = Made.block(1, 1, 1, 1, 1, 1, 1, 1, 1, 1, 1, 3, 3, 0, 0, 0);
        kindIs(post, 0, 1, MotionPost.MOVED, 65);
    }

    static void terms_blocks_66BitsTogether_isMoved() {
        MotionPost post = Made.block(1, 1, 1, 1, 1, 1, 1, 1, 1, 1, 1, 1, 1, 3, 0, 0);
        kindIs(post, 0, 1, MotionPost.MOVED, 66);
    }

    static void terms_blocks_67BitsTogether_isRawWith66() {
        MotionPost post = Made.block(1, 1, 1, 1, 1, 1, 1, 1, 1, 1, 1, 1, 1, 1, 1, 0);
        kindIs(post, 0, 1, MotionPost.RAW, 66);
    }

    static void terms_blocks_mostBitsTogether_isRawWith66() {
        kindIs(Made.block(Made.values(16, 15, 0, 0)), 0, 1, MotionPost.RAW, 66);
    }

    static void terms_blocks_otherMoveAndTooManyBits_isRawWith66() {
        // Best taken from one column to the left; then half of the pixels are 5 more, the others 5 less.
        MotionPost post = new MotionPost();
        for (int pixel = 0; pixel < 64; pixel++) {
            post.draw(pixel, pixel % 2 == 0 ? 0 : 15);
        }
        post.send(false);
        for (int pixel = 0; pixel < 64; pixel++) {
            post.draw(pixel, pixel % 2 == 0 ? 10 : 5);
        }
        Check.due("bestMove", post.bestMove(1), 11);
        kindIs(post, 1, 1, MotionPost.RAW, 66);
    }

    // ---- Blocks: "A raw block is sent with the drawn values."

    static void terms_blocks_rawBlockWithCoarseness8_isSentWithTheDrawnValues() {
        MotionPost post = Made.block(15, 14, 13, 12, 15, 14, 13, 12, 15, 14, 13, 12, 15, 14, 13, 12);
        post.setBudget(4);
        Check.due("coarsenessNext", post.coarsenessNext(), 8);
        Check.due("send", post.send(false), 69);
        Check.due("lastKind", post.lastKind(0), MotionPost.RAW);
        Check.due("error", post.error(), 0);
        Check.due("receivedAt 1", post.receivedAt(1), 14);
    }

    // ---- Sending: "A picture whose number is a multiple of the key distance (1 to 20, 8 at first) is a key"

    static void terms_sending_picture0_isAKeyWithEachKeyDistance() {
        for (int pictures = 1; pictures <= 20; pictures++) {
            MotionPost post = new MotionPost();
            post.setKeyDistance(pictures);
            Check.due("isKeyNext", post.isKeyNext(), true);
            Check.due("send", post.send(false), 264);
        }
    }

    /** The kinds of so many pictures: K for those that are sent as keys. */
    private static String keys(int distance, int pictures) {
        MotionPost post = new MotionPost();
        if (distance != 8) {
            post.setKeyDistance(distance);
        }
        StringBuilder kinds = new StringBuilder();
        for (int picture = 0; picture < pictures; picture++) {
            kinds.append(post.send(false) == 264 ? 'K' : '-');
        }
        return kinds.toString();
    }

    static void terms_sending_firstKeyDistance_pictures8And16AreKeys() {
        Check.due("keys", keys(8, 18), "K-------K-------K-");
    }

    static void terms_sending_keyDistance1_allAreKeys() {
        Check.due("keys", keys(1, 5), "KKKKK");
    }

    static void terms_sending_keyDistance2_eachSecondIsAKey() {
        Check.due("keys", keys(2, 5), "K-K-K");
    }

    static void terms_sending_keyDistance20_picture20IsTheNextKey() {
        Check.due("keys", keys(20, 22), "K-------------------K-");
    }

    static void terms_sending_keyOfAnUnchangedPicture_isRawAllTheSame() {
        MotionPost post = Made.afterKey();
        post.setKeyDistance(1);
        Check.due("send", post.send(false), 264);
        for (int block = 0; block < 4; block++) {
            Check.due("lastKind", post.lastKind(block), MotionPost.RAW);
        }
    }

    static void terms_sending_keyWithTheLeastBudget_isRawAllTheSame() {
        MotionPost post = new MotionPost();
        post.setBudget(4);
        Check.due("send", post.send(false), 264);
    }

    // ---- Sending: "the least with which all blocks together take at most as many bits as the budget (4 to 300,
    // 120 at first), 8 if there is none"

    /** The blocks take 66, 52, 1 and 1 bits with the coarseness 1. */
    private static MotionPost with120Bits() {
        MotionPost post = Made.block(1, 1, 1, 1, 1, 1, 1, 1, 1, 1, 1, 1, 1, 3);
        Made.drawBlock(post, 1, Made.values(10, 1, 6, 0));
        return post;
    }

    /** The blocks take 66, 53, 1 and 1 bits with the coarseness 1, then 25, 37, 1 and 1. */
    private static MotionPost with121Bits() {
        MotionPost post = Made.block(1, 1, 1, 1, 1, 1, 1, 1, 1, 1, 1, 1, 1, 3);
        Made.drawBlock(post, 1, 1, 1, 3, 3, 3, 3, 3);
        return post;
    }

    static void terms_sending_justTheFirstBudget_isWithin() {
        MotionPost post = with120Bits();
        Check.due("coarsenessNext", post.coarsenessNext(), 1);
        Check.due("send", post.send(false), 120);
        Check.due("error", post.error(), 0);
    }

    static void terms_sending_oneBitMoreThanTheFirstBudget_isCoarser() {
        MotionPost post = with121Bits();
        Check.due("coarsenessNext", post.coarsenessNext(), 2);
        Check.due("send", post.send(false), 64);
        Check.due("error", post.error(), 15 + 6);
    }

    static void terms_sending_justAnotherBudget_isWithin() {
        MotionPost post = with121Bits();
        post.setBudget(121);
        Check.due("coarsenessNext", post.coarsenessNext(), 1);
        Check.due("send", post.send(false), 121);
    }

    static void terms_sending_leastBudgetAndFourStillBlocks_isWithin() {
        MotionPost post = Made.afterKey();
        post.setBudget(4);
        Check.due("coarsenessNext", post.coarsenessNext(), 1);
        Check.due("send", post.send(false), 4);
    }

    static void terms_sending_greatestBudgetAndFourRawBlocks_isWithin() {
        MotionPost post = Made.afterKey();
        post.fill(0, 8, 8, 15);
        post.setBudget(300);
        Check.due("coarsenessNext", post.coarsenessNext(), 1);
        Check.due("send", post.send(false), 264);
    }

    static void terms_sending_severalWithinTheBudget_theLeastIsTaken() {
        // The bits, from the coarseness 1 on: 34, 32, 30, 30, 30, 28, 28, 28.
        MotionPost post = Made.block(15);
        post.setBudget(31);
        Check.due("coarsenessNext", post.coarsenessNext(), 3);
        post.setBudget(29);
        Check.due("coarsenessNext", post.coarsenessNext(), 6);
    }

    static void terms_sending_just8WithinTheBudget_is8() {
        MotionPost post = Made.block(7);
        post.setBudget(4);
        Check.due("bitsWith 7", post.bitsWith(0, 7), 25);
        Check.due("coarsenessNext", post.coarsenessNext(), 8);
        Check.due("send", post.send(false), 4);
    }

    static void terms_sending_noneWithinTheBudget_is8AndTakesMoreThanTheBudget() {
        MotionPost post = Made.block(15);
        post.setBudget(27);
        Check.due("coarsenessNext", post.coarsenessNext(), 8);
        Check.due("send", post.send(false), 28);
        Check.due("sentAt", post.sentAt(0), 8);
    }

    // ---- Sending: "results below 0 become 0, those above 15 become 15"

    /** What the receiver has in the end if one picture is received, another is lost, and a pixel is then drawn. */
    private static int received(int received, int lost, int drawn, int budget) {
        MotionPost post = Made.even(received);
        post.setKeyDistance(1);
        post.fill(0, 8, 8, lost);
        post.send(true);
        post.setKeyDistance(20);
        post.setBudget(budget);
        post.draw(0, drawn);
        post.send(false);
        Check.due("receivedAt 63", post.receivedAt(63), received);
        return post.receivedAt(0);
    }

    static void terms_sending_result0_stays() {
        Check.due("3 - 3", received(3, 5, 2, 120), 0);
    }

    static void terms_sending_resultMinus1_becomes0() {
        Check.due("3 - 4", received(3, 5, 1, 120), 0);
    }

    static void terms_sending_result1_stays() {
        Check.due("3 - 2", received(3, 5, 3, 120), 1);
    }

    static void terms_sending_resultMinus15_becomes0() {
        Check.due("0 - 15", received(0, 15, 0, 120), 0);
    }

    static void terms_sending_result14_stays() {
        Check.due("12 + 2", received(12, 10, 12, 120), 14);
    }

    static void terms_sending_result15_stays() {
        Check.due("12 + 3", received(12, 10, 13, 120), 15);
    }

    static void terms_sending_result16_becomes15() {
        Check.due("12 + 4", received(12, 10, 14, 120), 15);
    }

    static void terms_sending_result30_becomes15() {
        Check.due("15 + 15", received(15, 0, 15, 120), 15);
    }

    static void terms_sending_levelTimesTheCoarseness_isAdded() {
        Check.due("4 + 2 * 2", received(4, 2, 7, 29), 8);
    }

    static void terms_sending_negativeLevelTimesTheCoarseness_isAdded() {
        Check.due("11 - 2 * 2", received(11, 13, 8, 29), 7);
    }

    static void terms_sending_receiverTakesBeyondTheEdgesFromItsOwnEdges() {
        // Row 7 is 7 in the picture sent last, but 9 in the receiver's.
        MotionPost post = Made.slope(1, 0, 2);
        post.setKeyDistance(1);
        Made.drawSlope(post, 1, 0, 0);
        post.send(true);
        post.setKeyDistance(20);
        post.scroll(2, 0);
        Check.due("send", post.send(false), 4 * 22);
        Check.due("sentAt 63", post.sentAt(63), 7);
        Check.due("receivedAt 63", post.receivedAt(63), 9);
        Check.due("receivedAt 47", post.receivedAt(47), 9);
        Check.due("receivedAt 39", post.receivedAt(39), 8);
        Check.due("receivedAt 0", post.receivedAt(0), 4);
    }

    static void terms_sending_receiverTakesMovedBlocksFromItsPictureAsItWas() {
        // Each row is taken from the row above it, block for block: nothing that was received now may be taken.
        MotionPost post = Made.slope(1, 0, 2);
        post.scroll(-1, 0);
        post.send(false);
        for (int row = 0; row < 8; row++) {
            Check.due("row " + row, post.receivedAt(8 * row), row == 0 ? 2 : row + 1);
        }
    }

    // ---- Sending: "If the picture is lost, the receiver does nothing."

    static void terms_sending_lostKey_changesTheSendersPictureAlone() {
        MotionPost post = new MotionPost();
        post.fill(0, 8, 8, 9);
        post.send(true);
        Check.due("error", post.error(), 0);
        Check.due("drift", post.drift(), 64 * 9);
        Check.due("receivedAt", post.receivedAt(0), 0);
    }

    static void terms_sending_lostMovedBlocks_changeTheSendersPictureAlone() {
        MotionPost post = Made.block(5);
        post.send(true);
        Check.due("lastKind", post.lastKind(0), MotionPost.MOVED);
        Check.due("sentAt", post.sentAt(0), 5);
        Check.due("receivedAt", post.receivedAt(0), 0);
    }

    static void terms_sending_rawBlockOfNoKey_isTakenAsItIsDrawn() {
        // The receiver has 9 everywhere, the picture sent last is 0 everywhere.
        MotionPost post = Made.even(9);
        post.setKeyDistance(1);
        post.fill(0, 8, 8, 0);
        post.send(true);
        post.setKeyDistance(20);
        post.fill(0, 4, 4, 15);
        Check.due("isKeyNext", post.isKeyNext(), false);
        Check.due("send", post.send(false), 69);
        Check.due("receivedAt 0, raw", post.receivedAt(0), 15);
        Check.due("receivedAt 27, raw", post.receivedAt(27), 15);
        Check.due("receivedAt 28, still", post.receivedAt(28), 9);
        Check.due("drift", post.drift(), 48 * 9);
    }

    static void terms_sending_keyAfterALostPicture_bringsTheReceiverBack() {
        MotionPost post = new MotionPost();
        post.fill(0, 8, 8, 9);
        post.send(true);
        post.setKeyDistance(1);
        post.send(false);
        Check.due("drift", post.drift(), 0);
    }

    // ---- Numbers: "if several exceptions apply, the first one of the throws clause is thrown"

    private static void noSuch(Function<MotionPost, ?> call) {
        Check.refused("the call", Made::used, IndexOutOfBoundsException.class, call);
    }

    static void terms_severalExceptions_draw() {
        noSuch(x -> x.draw(64, 16));
    }

    static void terms_severalExceptions_fill() {
        noSuch(x -> x.fill(64, 9, 9, 16));
    }

    static void terms_severalExceptions_kindWith() {
        noSuch(x -> x.kindWith(4, 9));
    }

    static void terms_severalExceptions_bitsWith() {
        noSuch(x -> x.bitsWith(4, 9));
    }

    static void terms_severalExceptions_bitsByWriting() {
        noSuch(x -> x.bitsByWriting(4, 9));
    }

    static void terms_severalExceptions_loadState() {
        noSuch(x -> x.loadState(2));
    }

    static void terms_severalExceptions_appendText() {
        Check.refused("appendText(0)", () -> Made.withText("u;".repeat(40)), IllegalArgumentException.class,
                x -> x.appendText(0));
    }
}
