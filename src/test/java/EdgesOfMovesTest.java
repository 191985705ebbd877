import java.util.function.Function;

/** The edges of promises 13 to 16. */
public final class EdgesOfMovesTest {
    public static void main(String[] args) throws IllegalAccessException {
        Check.runEach(EdgesOfMovesTest.class);
    }

    private static void noSuch(Function<MotionPost, ?> call) {
        Check.refused("the call", Made::used, IndexOutOfBoundsException.class, call);
    }

    private static void noChange(Function<MotionPost, ?> call) {
        Check.altersNothing("the call", Made::used, call);
    }

    // ---- Pictures in which moves are equally good

    /** Sent row + column, drawn 2 less: in the block 3 two up, one up and left, and two left are best. */
    private static MotionPost twoLess() {
        MotionPost post = Made.slope(1, 1, 0);
        Made.drawSlope(post, 1, 1, -2);
        return post;
    }

    /** Sent row + column, drawn 2 more: in the block 0 two right, one down and right, and two down are best. */
    private static MotionPost twoMore() {
        MotionPost post = Made.slope(1, 1, 0);
        Made.drawSlope(post, 1, 1, 2);
        return post;
    }

    /**
     * Sent row - column + 7, drawn 1 more: one down and one left are best. In the block 1 both are; in the block 3
     * one left alone, with one up and two left, which is longer and has the lesser number; in the block 0 one down
     * alone, with two down and one right.
     */
    private static MotionPost oneMoreAcross() {
        MotionPost post = Made.slope(1, -1, 7);
        Made.drawSlope(post, 1, -1, 8);
        return post;
    }

    /** Each second row is 9: in the block 2 two up is as good as no move, and so are both with any step aside. */
    private static MotionPost alternatingRows() {
        MotionPost post = new MotionPost();
        for (int row = 0; row < 8; row += 2) {
            post.fill(8 * row, 1, 8, 9);
        }
        post.send(false);
        return post;
    }

    /** One pixel is 5 in the picture sent last, another one is drawn; all others are 0 in both. */
    private static MotionPost onePixel(int sent, int drawn) {
        MotionPost post = new MotionPost();
        post.draw(sent, 5);
        post.send(false);
        post.draw(sent, 0);
        post.draw(drawn, 5);
        return post;
    }

    /** The distance of the block 0 is 1 by a move, and more by all others, which are shorter or of lesser number. */
    private static MotionPost oneApart(int move) {
        MotionPost post = Made.scrolledBy(move);
        int value = post.drawnAt(9);
        post.draw(9, value == 0 ? 1 : value - 1);
        return post;
    }

    // ---- 13: "Throws IndexOutOfBoundsException if there is no such block or move"

    static void promise13_block0AndMove0_areTheFirst() {
        Check.due("distance", Made.scrolledBy(0).distance(0, 0), 0);
    }

    static void promise13_block3AndMove24_areTheLast() {
        Check.due("distance", Made.scrolledBy(24).distance(3, 24), 0);
    }

    static void promise13_blockMinus1_throwsIndexOutOfBounds() {
        noSuch(x -> x.distance(-1, 12));
    }

    static void promise13_block4_throwsIndexOutOfBounds() {
        noSuch(x -> x.distance(4, 12));
    }

    static void promise13_leastIntAsBlock_throwsIndexOutOfBounds() {
        noSuch(x -> x.distance(Integer.MIN_VALUE, 12));
    }

    static void promise13_greatestIntAsBlock_throwsIndexOutOfBounds() {
        noSuch(x -> x.distance(Integer.MAX_VALUE, 12));
    }

    static void promise13_moveMinus1_throwsIndexOutOfBounds() {
        noSuch(x -> x.distance(0, -1));
    }

    static void promise13_move25_throwsIndexOutOfBounds() {
        noSuch(x -> x.distance(0, 25));
    }

    static void promise13_leastIntAsMove_throwsIndexOutOfBounds() {
        noSuch(x -> x.distance(0, Integer.MIN_VALUE));
    }

    static void promise13_greatestIntAsMove_throwsIndexOutOfBounds() {
        noSuch(x -> x.distance(0, Integer.MAX_VALUE));
    }

    static void promise13_noSuchBlockAndNoSuchMove_throwsIndexOutOfBounds() {
        noSuch(x -> x.distance(4, 25));
    }

    static void promise13_nothingDrawn_is0ByAllMoves() {
        MotionPost post = Made.even(15);
        for (int move = 0; move < 25; move++) {
            Check.due("by move " + move, post.distance(0, move), 0);
        }
    }

    static void promise13_greatest_is240ByAllMoves() {
        MotionPost post = new MotionPost();
        post.fill(0, 8, 8, 15);
        for (int move = 0; move < 25; move++) {
            Check.due("by move " + move, post.distance(3, move), 240);
        }
    }

    static void promise13_firstPixelOfABlock_counts() {
        MotionPost post = new MotionPost();
        post.draw(36, 1);
        Check.due("distance", post.distance(3, 12), 1);
    }

    static void promise13_lastPixelOfABlock_counts() {
        MotionPost post = new MotionPost();
        post.draw(27, 1);
        Check.due("distance", post.distance(0, 12), 1);
    }

    static void promise13_isNoChange() {
        noChange(x -> x.distance(3, 24));
    }

    // ---- 14: "Throws IndexOutOfBoundsException if there is no such block"

    static void promise14_blockMinus1_throwsIndexOutOfBounds() {
        noSuch(x -> x.bestMove(-1));
    }

    static void promise14_block4_throwsIndexOutOfBounds() {
        noSuch(x -> x.bestMove(4));
    }

    static void promise14_leastInt_throwsIndexOutOfBounds() {
        noSuch(x -> x.bestMove(Integer.MIN_VALUE));
    }

    static void promise14_greatestInt_throwsIndexOutOfBounds() {
        noSuch(x -> x.bestMove(Integer.MAX_VALUE));
    }

    // ---- 14: "found by looking at all moves", and of the terms: "The best move of a block has the least distance;
    // of several, the least sum of dy and dx without regard to signs; of several of these, the least number."

    static void promise14_allMovesEquallyGood_isNoMove() {
        for (int block = 0; block < 4; block++) {
            Check.due("block " + block, new MotionPost().bestMove(block), 12);
        }
    }

    static void promise14_allDistancesTheGreatest_isNoMove() {
        MotionPost post = new MotionPost();
        post.fill(0, 8, 8, 15);
        Check.due("bestMove", post.bestMove(3), 12);
    }

    static void promise14_firstMove_canBeTheBest() {
        Check.due("bestMove", Made.scrolledBy(0).bestMove(0), 0);
    }

    static void promise14_lastMove_canBeTheBest() {
        Check.due("bestMove", Made.scrolledBy(24).bestMove(3), 24);
    }

    static void promise14_eachMove_canBeTheBestOfEachBlock() {
        for (int move = 0; move < 25; move++) {
            for (int block = 0; block < 4; block++) {
                Check.due("block " + block, Made.scrolledBy(move).bestMove(block), move);
            }
        }
    }

    static void promise14_leastDistanceNot0_isFoundToo() {
        Check.due("move 0", oneApart(0).bestMove(0), 0);
        Check.due("move 4", oneApart(4).bestMove(0), 4);
        Check.due("move 20", oneApart(20).bestMove(0), 20);
        Check.due("move 24", oneApart(24).bestMove(0), 24);
    }

    static void promise14_firstPixelOfTheBlock_decides() {
        Check.due("one down and right", onePixel(45, 36).bestMove(3), 18);
    }

    static void promise14_lastPixelOfTheBlock_decides() {
        Check.due("one up and left", onePixel(18, 27).bestMove(0), 6);
    }

    static void promise14_noMoveAndTwoUpEquallyGood_isNoMove() {
        Check.due("bestMove", alternatingRows().bestMove(2), 12);
    }

    static void promise14_longerMoveOfLesserNumberEquallyGood_isTheShorter() {
        Check.due("bestMove", oneMoreAcross().bestMove(3), 11);
    }

    static void promise14_longerMoveOfGreaterNumberEquallyGood_isTheShorter() {
        Check.due("bestMove", oneMoreAcross().bestMove(0), 17);
    }

    static void promise14_oneLeftAndOneDownEquallyGood_isTheLesserNumber() {
        Check.due("bestMove", oneMoreAcross().bestMove(1), 11);
    }

    static void promise14_equallyLongToTheUpperLeft_isTheLeastNumber() {
        Check.due("bestMove", twoLess().bestMove(3), 2);
    }

    static void promise14_equallyLongToTheLowerRight_isTheLeastNumber() {
        Check.due("bestMove", twoMore().bestMove(0), 14);
    }

    static void promise14_isNoChange() {
        noChange(x -> x.bestMove(3));
    }

    // ---- 15: "Returns the same number", "adding up stops as soon as a distance is not less than the best one so far"

    static void promise15_blockMinus1_throwsIndexOutOfBounds() {
        noSuch(x -> x.bestMoveByStopping(-1));
    }

    static void promise15_block4_throwsIndexOutOfBounds() {
        noSuch(x -> x.bestMoveByStopping(4));
    }

    static void promise15_leastInt_throwsIndexOutOfBounds() {
        noSuch(x -> x.bestMoveByStopping(Integer.MIN_VALUE));
    }

    static void promise15_greatestInt_throwsIndexOutOfBounds() {
        noSuch(x -> x.bestMoveByStopping(Integer.MAX_VALUE));
    }

    static void promise15_allMovesEquallyGood_isNoMove() {
        for (int block = 0; block < 4; block++) {
            Check.due("block " + block, new MotionPost().bestMoveByStopping(block), 12);
        }
    }

    static void promise15_allDistancesTheGreatest_isNoMove() {
        MotionPost post = new MotionPost();
        post.fill(0, 8, 8, 15);
        Check.due("bestMoveByStopping", post.bestMoveByStopping(3), 12);
    }

    static void promise15_firstMove_canBeTheBest() {
        Check.due("bestMoveByStopping", Made.scrolledBy(0).bestMoveByStopping(0), 0);
    }

    static void promise15_lastMove_canBeTheBest() {
        Check.due("bestMoveByStopping", Made.scrolledBy(24).bestMoveByStopping(3), 24);
    }

    static void promise15_eachMove_canBeTheBestOfEachBlock() {
        for (int move = 0; move < 25; move++) {
            for (int block = 0; block < 4; block++) {
                Check.due("block " + block, Made.scrolledBy(move).bestMoveByStopping(block), move);
            }
        }
    }

    static void promise15_leastDistanceNot0_isFoundToo() {
        Check.due("move 0", oneApart(0).bestMoveByStopping(0), 0);
        Check.due("move 4", oneApart(4).bestMoveByStopping(0), 4);
        Check.due("move 20", oneApart(20).bestMoveByStopping(0), 20);
        Check.due("move 24", oneApart(24).bestMoveByStopping(0), 24);
    }

    static void promise15_distanceLessByTheLastPixelAlone_isTheBest() {
        // By one right the sum reaches that of no move with the last pixel only, but for 1.
        MotionPost post = new MotionPost();
        post.fill(0, 8, 8, 5);
        post.draw(28, 14);
        post.send(false);
        post.fill(0, 8, 8, 5);
        post.draw(27, 10);
        Check.due("distance by no move", post.distance(0, 12), 5);
        Check.due("distance by one right", post.distance(0, 13), 4);
        Check.due("bestMoveByStopping", post.bestMoveByStopping(0), 13);
    }

    static void promise15_distanceEqualByTheLastPixel_isNotBetter() {
        MotionPost post = new MotionPost();
        post.fill(0, 8, 8, 5);
        post.draw(28, 15);
        post.send(false);
        post.fill(0, 8, 8, 5);
        post.draw(27, 10);
        Check.due("distance by no move", post.distance(0, 12), 5);
        Check.due("distance by one right", post.distance(0, 13), 5);
        Check.due("bestMoveByStopping", post.bestMoveByStopping(0), 12);
    }

    static void promise15_firstPixelOfTheBlock_decides() {
        Check.due("one down and right", onePixel(45, 36).bestMoveByStopping(3), 18);
    }

    static void promise15_lastPixelOfTheBlock_decides() {
        Check.due("one up and left", onePixel(18, 27).bestMoveByStopping(0), 6);
    }

    static void promise15_noMoveAndTwoUpEquallyGood_isNoMove() {
        Check.due("bestMoveByStopping", alternatingRows().bestMoveByStopping(2), 12);
    }

    static void promise15_longerMoveOfLesserNumberEquallyGood_isTheShorter() {
        Check.due("bestMoveByStopping", oneMoreAcross().bestMoveByStopping(3), 11);
    }

    static void promise15_longerMoveOfGreaterNumberEquallyGood_isTheShorter() {
        Check.due("bestMoveByStopping", oneMoreAcross().bestMoveByStopping(0), 17);
    }

    static void promise15_oneLeftAndOneDownEquallyGood_isTheLesserNumber() {
        Check.due("bestMoveByStopping", oneMoreAcross().bestMoveByStopping(1), 11);
    }

    static void promise15_equallyLongToTheUpperLeft_isTheLeastNumber() {
        Check.due("bestMoveByStopping", twoLess().bestMoveByStopping(3), 2);
    }

    static void promise15_equallyLongToTheLowerRight_isTheLeastNumber() {
        Check.due("bestMoveByStopping", twoMore().bestMoveByStopping(0), 14);
    }

    static void promise15_isNoChange() {
        noChange(x -> x.bestMoveByStopping(3));
    }

    // ---- 16: "Returns how many moves of a block have the least distance.", "Throws .. if there is no such block"

    static void promise16_blockMinus1_throwsIndexOutOfBounds() {
        noSuch(x -> x.equalMoves(-1));
    }

    static void promise16_block4_throwsIndexOutOfBounds() {
        noSuch(x -> x.equalMoves(4));
    }

    static void promise16_leastInt_throwsIndexOutOfBounds() {
        noSuch(x -> x.equalMoves(Integer.MIN_VALUE));
    }

    static void promise16_greatestInt_throwsIndexOutOfBounds() {
        noSuch(x -> x.equalMoves(Integer.MAX_VALUE));
    }

    static void promise16_oneMoveAlone_is1() {
        Check.due("the first move", Made.scrolledBy(0).equalMoves(0), 1);
        Check.due("no move", Made.scrolledBy(12).equalMoves(1), 1);
        Check.due("one down and right", onePixel(45, 36).equalMoves(3), 1);
        Check.due("one up and left", onePixel(18, 27).equalMoves(0), 1);
        Check.due("the last move", Made.scrolledBy(24).equalMoves(3), 1);
    }

    static void promise16_allMoves_are25() {
        for (int block = 0; block < 4; block++) {
            Check.due("block " + block, new MotionPost().equalMoves(block), 25);
        }
    }

    static void promise16_allMovesWithTheGreatestDistance_are25() {
        MotionPost post = new MotionPost();
        post.fill(0, 8, 8, 15);
        Check.due("equalMoves", post.equalMoves(3), 25);
    }

    static void promise16_longerMoves_areCountedToo() {
        Check.due("in the block 3", twoLess().equalMoves(3), 3);
        Check.due("in the block 0", twoMore().equalMoves(0), 3);
        Check.due("of different length", oneMoreAcross().equalMoves(3), 2);
        Check.due("with steps aside", alternatingRows().equalMoves(2), 10);
    }

    static void promise16_isNoChange() {
        noChange(x -> x.equalMoves(3));
    }
}
