import java.util.function.Function;

/** The edges of promises 17 to 22. */
public final class EdgesOfForesightTest {
    public static void main(String[] args) throws IllegalAccessException {
        Check.runEach(EdgesOfForesightTest.class);
    }

    private static void noSuch(Function<MotionPost, ?> call) {
        Check.refused("the call", Made::used, IndexOutOfBoundsException.class, call);
    }

    private static void outOfRange(Function<MotionPost, ?> call) {
        Check.refused("the call", Made::used, IllegalArgumentException.class, call);
    }

    private static void noChange(Function<MotionPost, ?> call) {
        Check.altersNothing("the call", Made::used, call);
        Check.altersNothing("the call, before a key", MotionPost::new, call);
    }

    // ---- 17: "Tells whether the next picture sent would be a key."

    static void promise17_newObject_isKeyNext() {
        Check.due("isKeyNext", new MotionPost().isKeyNext(), true);
    }

    static void promise17_afterPicture0_isNoKeyNext() {
        Check.due("isKeyNext", Made.afterPictures(1).isKeyNext(), false);
    }

    static void promise17_onePictureBeforeTheKeyDistance_isNoKeyNext() {
        Check.due("isKeyNext", Made.afterPictures(7).isKeyNext(), false);
    }

    static void promise17_justTheKeyDistance_isKeyNext() {
        Check.due("isKeyNext", Made.afterPictures(8).isKeyNext(), true);
    }

    static void promise17_onePictureBehindTheKeyDistance_isNoKeyNext() {
        Check.due("isKeyNext", Made.afterPictures(9).isKeyNext(), false);
    }

    static void promise17_twiceTheKeyDistance_isKeyNext() {
        Check.due("isKeyNext", Made.afterPictures(16).isKeyNext(), true);
    }

    static void promise17_leastKeyDistance_isAlwaysKeyNext() {
        MotionPost post = Made.afterPictures(7);
        post.setKeyDistance(1);
        Check.due("isKeyNext", post.isKeyNext(), true);
    }

    static void promise17_greatestKeyDistance_isKeyNextAt20NotAt19() {
        MotionPost post = Made.afterPictures(19);
        post.setKeyDistance(20);
        Check.due("isKeyNext at 19", post.isKeyNext(), false);
        post.send(false);
        Check.due("isKeyNext at 20", post.isKeyNext(), true);
    }

    static void promise17_lostPictures_countToo() {
        MotionPost post = new MotionPost();
        Check.run(post, "x;x;x;x;x;x;x;x");
        Check.due("isKeyNext", post.isKeyNext(), true);
    }

    static void promise17_isNoChange() {
        noChange(x -> x.isKeyNext());
    }

    // ---- 18: "Throws .. if there is no such block", "coarseness: 1 to 8"

    static void promise18_blockMinus1_throwsIndexOutOfBounds() {
        noSuch(x -> x.kindWith(-1, 1));
    }

    static void promise18_block4_throwsIndexOutOfBounds() {
        noSuch(x -> x.kindWith(4, 1));
    }

    static void promise18_leastIntAsBlock_throwsIndexOutOfBounds() {
        noSuch(x -> x.kindWith(Integer.MIN_VALUE, 8));
    }

    static void promise18_greatestIntAsBlock_throwsIndexOutOfBounds() {
        noSuch(x -> x.kindWith(Integer.MAX_VALUE, 8));
    }

    static void promise18_coarseness0_throwsIllegalArgument() {
        outOfRange(x -> x.kindWith(0, 0));
    }

    static void promise18_coarseness9_throwsIllegalArgument() {
        outOfRange(x -> x.kindWith(3, 9));
    }

    static void promise18_coarsenessMinus1_throwsIllegalArgument() {
        outOfRange(x -> x.kindWith(0, -1));
    }

    static void promise18_leastIntAsCoarseness_throwsIllegalArgument() {
        outOfRange(x -> x.kindWith(0, Integer.MIN_VALUE));
    }

    static void promise18_greatestIntAsCoarseness_throwsIllegalArgument() {
        outOfRange(x -> x.kindWith(0, Integer.MAX_VALUE));
    }

    static void promise18_wrongBlockAndCoarseness0_throwsIndexOutOfBoundsFirst() {
        noSuch(x -> x.kindWith(-1, 0));
    }

    static void promise18_wrongBlockAndCoarseness9_throwsIndexOutOfBoundsFirst() {
        noSuch(x -> x.kindWith(4, 9));
    }

    static void promise18_coarseness1_makesMovedOfADifferenceOf1() {
        Check.due("kindWith", Made.block(1).kindWith(0, 1), MotionPost.MOVED);
    }

    static void promise18_coarseness2_makesStillOfADifferenceOf1() {
        Check.due("kindWith", Made.block(1).kindWith(0, 2), MotionPost.STILL);
    }

    static void promise18_coarseness8_makesStillOfADifferenceOf7() {
        Check.due("kindWith", Made.block(7).kindWith(0, 8), MotionPost.STILL);
    }

    static void promise18_coarseness8_makesMovedOfADifferenceOf8() {
        Check.due("kindWith", Made.block(8).kindWith(0, 8), MotionPost.MOVED);
    }

    static void promise18_eachBlock_hasItsOwnKind() {
        MotionPost post = Made.afterKey();
        post.draw(63, 1);
        post.fill(4, 4, 4, 15);
        Check.due("block 0", post.kindWith(0, 1), MotionPost.STILL);
        Check.due("block 1", post.kindWith(1, 1), MotionPost.RAW);
        Check.due("block 2", post.kindWith(2, 1), MotionPost.STILL);
        Check.due("block 3", post.kindWith(3, 1), MotionPost.MOVED);
    }

    static void promise18_askedForAgain_isWhatIsDrawnThen() {
        MotionPost post = Made.afterKey();
        Check.due("nothing drawn", post.kindWith(0, 1), MotionPost.STILL);
        post.fill(0, 4, 4, 15);
        Check.due("all drawn", post.kindWith(0, 1), MotionPost.RAW);
        post.fill(0, 4, 4, 0);
        post.draw(27, 1);
        Check.due("one pixel drawn", post.kindWith(0, 1), MotionPost.MOVED);
    }

    static void promise18_beforeAKey_isAsIfItWasNone() {
        MotionPost post = new MotionPost();
        Check.due("isKeyNext", post.isKeyNext(), true);
        Check.due("nothing drawn", post.kindWith(0, 1), MotionPost.STILL);
        post.draw(0, 1);
        Check.due("one pixel drawn", post.kindWith(0, 1), MotionPost.MOVED);
    }

    static void promise18_isNoChange() {
        noChange(x -> x.kindWith(3, 8));
    }

    // ---- 19: "Throws .. if there is no such block", "coarseness: 1 to 8"

    static void promise19_blockMinus1_throwsIndexOutOfBounds() {
        noSuch(x -> x.bitsWith(-1, 1));
    }

    static void promise19_block4_throwsIndexOutOfBounds() {
        noSuch(x -> x.bitsWith(4, 1));
    }

    static void promise19_leastIntAsBlock_throwsIndexOutOfBounds() {
        noSuch(x -> x.bitsWith(Integer.MIN_VALUE, 8));
    }

    static void promise19_greatestIntAsBlock_throwsIndexOutOfBounds() {
        noSuch(x -> x.bitsWith(Integer.MAX_VALUE, 8));
    }

    static void promise19_coarseness0_throwsIllegalArgument() {
        outOfRange(x -> x.bitsWith(0, 0));
    }

    static void promise19_coarseness9_throwsIllegalArgument() {
        outOfRange(x -> x.bitsWith(3, 9));
    }

    static void promise19_coarsenessMinus1_throwsIllegalArgument() {
        outOfRange(x -> x.bitsWith(0, -1));
    }

    static void promise19_leastIntAsCoarseness_throwsIllegalArgument() {
        outOfRange(x -> x.bitsWith(0, Integer.MIN_VALUE));
    }

    static void promise19_greatestIntAsCoarseness_throwsIllegalArgument() {
        outOfRange(x -> x.bitsWith(0, Integer.MAX_VALUE));
    }

    static void promise19_wrongBlockAndCoarseness0_throwsIndexOutOfBoundsFirst() {
        noSuch(x -> x.bitsWith(-1, 0));
    }

    static void promise19_wrongBlockAndCoarseness9_throwsIndexOutOfBoundsFirst() {
        noSuch(x -> x.bitsWith(4, 9));
    }

    static void promise19_stillBlock_takes1Bit() {
        Check.due("bitsWith", Made.block(7).bitsWith(0, 8), 1);
    }

    static void promise19_movedBlockWithoutAdditions_takes22Bits() {
        Check.due("bitsWith", Made.scrolledBy(0).bitsWith(0, 1), 22);
    }

    static void promise19_movedBlockWithOneLevel_takes25To31Bits() {
        Check.due("level 1", Made.block(1).bitsWith(0, 1), 25);
        Check.due("level 15", Made.block(15).bitsWith(0, 1), 31);
    }

    static void promise19_most_are66Bits() {
        Check.due("just moved", Made.block(1, 1, 1, 1, 1, 1, 1, 1, 1, 1, 1, 1, 1, 3).bitsWith(0, 1), 66);
        Check.due("just raw", Made.block(Made.values(15, 1, 1, 0)).bitsWith(0, 1), 66);
        Check.due("all levels 15", Made.block(Made.values(16, 15, 0, 0)).bitsWith(0, 1), 66);
    }

    static void promise19_beforeAKey_isAsIfItWasNone() {
        Check.due("bitsWith", new MotionPost().bitsWith(3, 1), 1);
    }

    static void promise19_isNoChange() {
        noChange(x -> x.bitsWith(3, 8));
    }

    // ---- 20: "Throws .. if there is no such block", "coarseness: 1 to 8", "Returns the same number"

    static void promise20_blockMinus1_throwsIndexOutOfBounds() {
        noSuch(x -> x.bitsByWriting(-1, 1));
    }

    static void promise20_block4_throwsIndexOutOfBounds() {
        noSuch(x -> x.bitsByWriting(4, 1));
    }

    static void promise20_leastIntAsBlock_throwsIndexOutOfBounds() {
        noSuch(x -> x.bitsByWriting(Integer.MIN_VALUE, 8));
    }

    static void promise20_greatestIntAsBlock_throwsIndexOutOfBounds() {
        noSuch(x -> x.bitsByWriting(Integer.MAX_VALUE, 8));
    }

    static void promise20_coarseness0_throwsIllegalArgument() {
        outOfRange(x -> x.bitsByWriting(0, 0));
    }

    static void promise20_coarseness9_throwsIllegalArgument() {
        outOfRange(x -> x.bitsByWriting(3, 9));
    }

    static void promise20_coarsenessMinus1_throwsIllegalArgument() {
        outOfRange(x -> x.bitsByWriting(0, -1));
    }

    static void promise20_leastIntAsCoarseness_throwsIllegalArgument() {
        outOfRange(x -> x.bitsByWriting(0, Integer.MIN_VALUE));
    }

    static void promise20_greatestIntAsCoarseness_throwsIllegalArgument() {
        outOfRange(x -> x.bitsByWriting(0, Integer.MAX_VALUE));
    }

    static void promise20_wrongBlockAndCoarseness0_throwsIndexOutOfBoundsFirst() {
        noSuch(x -> x.bitsByWriting(-1, 0));
    }

    static void promise20_wrongBlockAndCoarseness9_throwsIndexOutOfBoundsFirst() {
        noSuch(x -> x.bitsByWriting(4, 9));
    }

    static void promise20_stillBlock_takes1Bit() {
        Check.due("bitsByWriting", Made.block(7).bitsByWriting(0, 8), 1);
    }

    static void promise20_movedBlockWithoutAdditions_takes22Bits() {
        Check.due("bitsByWriting", Made.scrolledBy(0).bitsByWriting(0, 1), 22);
    }

    static void promise20_eachLevel_isWrittenWithTheSameBitsAsAddedUp() {
        for (int value = 0; value <= 15; value++) {
            MotionPost more = Made.block(value);
            Check.due("level " + value, more.bitsByWriting(0, 1), more.bitsWith(0, 1));
            MotionPost less = Made.even(15);
            less.draw(63, 15 - value);
            Check.due("level -" + value, less.bitsByWriting(3, 1), less.bitsWith(3, 1));
        }
    }

    static void promise20_most_are66Bits() {
        Check.due("just moved", Made.block(1, 1, 1, 1, 1, 1, 1, 1, 1, 1, 1, 1, 1, 3).bitsByWriting(0, 1), 66);
        Check.due("just raw", Made.block(Made.values(15, 1, 1, 0)).bitsByWriting(0, 1), 66);
        Check.due("all levels 15", Made.block(Made.values(16, 15, 0, 0)).bitsByWriting(0, 1), 66);
    }

    static void promise20_beforeAKey_isAsIfItWasNone() {
        Check.due("bitsByWriting", new MotionPost().bitsByWriting(3, 1), 1);
    }

    static void promise20_isNoChange() {
        noChange(x -> x.bitsByWriting(3, 8));
    }

    // ---- 21: "Returns the coarseness with which the next picture would be sent; NONE if it would be a key."

    static void promise21_key_isNone() {
        Check.due("picture 0", new MotionPost().coarsenessNext(), MotionPost.NONE);
        Check.due("picture 8", Made.afterPictures(8).coarsenessNext(), MotionPost.NONE);
    }

    static void promise21_behindAKey_isNotNone() {
        Check.due("coarsenessNext", Made.afterPictures(9).coarsenessNext(), 1);
    }

    static void promise21_keyWithTheLeastBudget_isNone() {
        MotionPost post = new MotionPost();
        post.setBudget(4);
        Check.due("coarsenessNext", post.coarsenessNext(), MotionPost.NONE);
    }

    static void promise21_justWithinTheBudget_is1() {
        MotionPost post = Made.block(15);
        post.setBudget(34);
        Check.due("coarsenessNext", post.coarsenessNext(), 1);
    }

    static void promise21_oneBitBeyondTheBudget_is2() {
        MotionPost post = Made.block(15);
        post.setBudget(33);
        Check.due("coarsenessNext", post.coarsenessNext(), 2);
    }

    static void promise21_just8WithinTheBudget_is8() {
        MotionPost post = Made.block(7);
        post.setBudget(27);
        Check.due("coarsenessNext", post.coarsenessNext(), 8);
    }

    static void promise21_noneWithinTheBudget_is8() {
        MotionPost post = Made.block(15);
        post.setBudget(27);
        Check.due("coarsenessNext", post.coarsenessNext(), 8);
    }

    static void promise21_isNoChange() {
        noChange(x -> x.coarsenessNext());
    }

    // ---- 22: "Returns how many bits the next picture would take."

    static void promise22_key_takes264() {
        Check.due("picture 0", new MotionPost().bitsNext(), 264);
        Check.due("picture 8", Made.afterPictures(8).bitsNext(), 264);
    }

    static void promise22_leastOfNoKey_is4() {
        Check.due("bitsNext", Made.afterPictures(9).bitsNext(), 4);
    }

    static void promise22_greatestOfNoKey_is264() {
        MotionPost post = Made.afterKey();
        post.fill(0, 8, 8, 15);
        Check.due("isKeyNext", post.isKeyNext(), false);
        Check.due("bitsNext", post.bitsNext(), 264);
    }

    static void promise22_justWithinTheBudget_isTheBudget() {
        MotionPost post = Made.block(15);
        post.setBudget(34);
        Check.due("bitsNext", post.bitsNext(), 34);
    }

    static void promise22_oneBitBeyondTheBudget_isThatOfTheNextCoarseness() {
        MotionPost post = Made.block(15);
        post.setBudget(33);
        Check.due("bitsNext", post.bitsNext(), 32);
    }

    static void promise22_noneWithinTheBudget_isMoreThanTheBudget() {
        MotionPost post = Made.block(15);
        post.setBudget(4);
        Check.due("bitsNext", post.bitsNext(), 28);
    }

    static void promise22_isWhatSendReturnsThen() {
        for (int budget = 4; budget <= 40; budget++) {
            MotionPost post = Made.block(15, 9, 3);
            post.setBudget(budget);
            Check.due("with the budget " + budget, post.bitsNext(), post.send(false));
        }
    }

    static void promise22_isNoChange() {
        noChange(x -> x.bitsNext());
    }
}
