import java.util.function.Consumer;
import java.util.function.Function;
import java.util.function.Supplier;

/** The edges of promises 33 to 36. */
public final class EdgesOfStatesTest {
    public static void main(String[] args) throws IllegalAccessException {
        Check.runEach(EdgesOfStatesTest.class);
    }

    private static void noSuch(Function<MotionPost, ?> call) {
        Check.refused("the call", Made::used, IndexOutOfBoundsException.class, call);
    }

    private static void wrongState(Supplier<MotionPost> made, Function<MotionPost, ?> call) {
        Check.refused("the call", made, IllegalStateException.class, call);
    }

    /** With the values 1, 2, .. drawn to the pixel 0, one change each. */
    private static MotionPost drawn(int changes) {
        MotionPost post = new MotionPost();
        for (int value = 1; value <= changes; value++) {
            post.draw(0, value);
        }
        return post;
    }

    // ---- 33: "Throws IllegalStateException if no state is recorded"

    static void promise33_newObject_throwsIllegalState() {
        wrongState(MotionPost::new, x -> x.undo());
    }

    static void promise33_onlyChangeUndone_throwsIllegalState() {
        wrongState(() -> {
            MotionPost post = drawn(1);
            post.undo();
            return post;
        }, x -> x.undo());
    }

    static void promise33_sixOfSevenChangesUndone_throwsIllegalState() {
        wrongState(() -> {
            MotionPost post = drawn(7);
            for (int time = 0; time < 6; time++) {
                post.undo();
            }
            return post;
        }, x -> x.undo());
    }

    static void promise33_onlyRefusedCalls_throwsIllegalState() {
        wrongState(() -> {
            MotionPost post = new MotionPost();
            Check.answer(() -> post.draw(64, 0));
            Check.answer(() -> post.fill(0, 9, 1, 1));
            Check.answer(() -> post.scroll(3, 0));
            Check.answer(() -> post.setBudget(3));
            Check.answer(() -> post.setKeyDistance(0));
            Check.answer(() -> post.runText());
            Check.answer(() -> post.loadState(0));
            return post;
        }, x -> x.undo());
    }

    // ---- 33: "At most 6 states are kept; when another one is recorded, the oldest one is dropped."

    /** Undoes until nothing is left, and tells the value of the pixel 0 behind each undo. */
    private static String undone(MotionPost post) {
        StringBuilder values = new StringBuilder();
        for (int left = post.undoCount() - 1; left >= 0; left--) {
            Check.due("undo", post.undo(), left);
            values.append(post.drawnAt(0)).append(' ');
        }
        return values.toString();
    }

    static void promise33_oneChange_isUndone() {
        Check.due("values", undone(drawn(1)), "0 ");
    }

    static void promise33_sixChanges_areAllUndone() {
        Check.due("values", undone(drawn(6)), "5 4 3 2 1 0 ");
    }

    static void promise33_sevenChanges_theOldestIsDropped() {
        Check.due("values", undone(drawn(7)), "6 5 4 3 2 1 ");
    }

    static void promise33_thirteenChanges_theLatestSixAreUndone() {
        Check.due("values", undone(drawn(13)), "12 11 10 9 8 7 ");
    }

    static void promise33_fullAndOneUndone_theNextChangeDropsNothing() {
        MotionPost post = drawn(6);
        post.undo();
        post.draw(0, 9);
        Check.due("values", undone(post), "5 4 3 2 1 0 ");
    }

    static void promise33_fullAndOneUndone_theSecondChangeDropsTheOldest() {
        MotionPost post = drawn(6);
        post.undo();
        post.draw(0, 9);
        post.draw(0, 10);
        Check.due("values", undone(post), "9 5 4 3 2 1 ");
    }

    static void promise33_allUndone_newChangesAreRecordedAgain() {
        MotionPost post = drawn(8);
        undone(post);
        post.draw(0, 11);
        post.draw(0, 12);
        Check.due("values", undone(post), "11 2 ");
    }

    static void promise33_undoIsNoChange_anotherOneGoesFurtherBack() {
        MotionPost post = drawn(3);
        post.undo();
        Check.due("undo", post.undo(), 1);
        Check.due("drawnAt", post.drawnAt(0), 1);
    }

    // ---- 33: "Every method that is described as a change .. first records the state, even if it alters nothing."

    /** A change that alters nothing is recorded, behind one that does. */
    private static void isRecorded(Consumer<MotionPost> change) {
        MotionPost post = drawn(1);
        post.saveState(0);
        change.accept(post);
        Check.due("undoCount", post.undoCount(), 2);
        Check.due("undo", post.undo(), 1);
        Check.due("drawnAt", post.drawnAt(0), 1);
    }

    static void promise33_drawTheSame_isRecorded() {
        isRecorded(x -> x.draw(0, 1));
    }

    static void promise33_fillTheSame_isRecorded() {
        isRecorded(x -> x.fill(1, 8, 8, 0));
    }

    static void promise33_scrollNowhere_isRecorded() {
        isRecorded(x -> x.scroll(0, 0));
    }

    static void promise33_setTheSameBudget_isRecorded() {
        isRecorded(x -> x.setBudget(120));
    }

    static void promise33_setTheSameKeyDistance_isRecorded() {
        isRecorded(x -> x.setKeyDistance(8));
    }

    static void promise33_loadTheSameState_isRecorded() {
        isRecorded(x -> x.loadState(0));
    }

    static void promise33_textWhoseFirstCommandFails_isRecorded() {
        isRecorded(x -> Check.run(x, "p64=1"));
    }

    static void promise33_send_isRecorded() {
        isRecorded(x -> x.send(false));
    }

    static void promise33_sendAndLost_isRecorded() {
        isRecorded(x -> x.send(true));
    }

    static void promise33_refusedChanges_dropNothing() {
        MotionPost post = drawn(6);
        Check.answer(() -> post.draw(0, 16));
        Check.answer(() -> post.loadState(1));
        Check.due("values", undone(post), "5 4 3 2 1 0 ");
    }

    // ---- 33: what a state holds

    /** What is seen before a change is seen again when it is undone, both settings too. */
    private static void isUndone(Consumer<MotionPost> change) {
        MotionPost post = Made.used();
        String before = Check.seen(Made.used());
        post.clearText();
        change.accept(post);
        post.undo();
        Check.due("budget", post.setBudget(120), 50);
        post.undo();
        Check.due("key distance", post.setKeyDistance(8), 12);
        post.undo();
        Check.append(post, "p9=9;u;s");
        Check.due("all but the history", Check.seen(post).replace("undo 5", "undo 6"), before);
    }

    static void promise33_draw_isUndone() {
        isUndone(x -> x.draw(9, 13));
    }

    static void promise33_fill_isUndone() {
        isUndone(x -> x.fill(0, 8, 8, 4));
    }

    static void promise33_scroll_isUndone() {
        isUndone(x -> x.scroll(-2, 2));
    }

    static void promise33_send_isUndone() {
        isUndone(x -> x.send(false));
    }

    static void promise33_sendAndLost_isUndone() {
        isUndone(x -> x.send(true));
    }

    static void promise33_setBudget_isUndone() {
        isUndone(x -> x.setBudget(300));
    }

    static void promise33_setKeyDistance_isUndone() {
        isUndone(x -> x.setKeyDistance(1));
    }

    static void promise33_runText_isUndone() {
        isUndone(x -> Check.run(x, "p0=9;s;u;x;r;s"));
    }

    static void promise33_loadState_isUndone() {
        isUndone(x -> x.loadState(0));
    }

    // ---- 33: "The text, the slots and the history itself are not part of a state."

    static void promise33_textAppendedBehindAChange_stays() {
        MotionPost post = drawn(1);
        Check.append(post, "s;u");
        post.undo();
        Check.due("textLength", post.textLength(), 3);
        Check.due("runText", post.runText(), 2);
    }

    static void promise33_textClearedBehindAChange_staysCleared() {
        MotionPost post = Made.withText("s;u");
        post.draw(0, 1);
        post.clearText();
        post.undo();
        Check.due("textLength", post.textLength(), 0);
    }

    static void promise33_slotSavedBehindAChange_staysSaved() {
        MotionPost post = drawn(1);
        post.saveState(1);
        post.undo();
        Check.due("loadState", post.loadState(1), 0);
        Check.due("drawnAt", post.drawnAt(0), 1);
    }

    static void promise33_slotReplacedBehindAChange_staysReplaced() {
        MotionPost post = new MotionPost();
        post.saveState(0);
        post.draw(0, 7);
        post.saveState(0);
        post.undo();
        post.loadState(0);
        Check.due("drawnAt", post.drawnAt(0), 7);
    }

    static void promise33_historyOfALoadedState_doesNotComeBack() {
        MotionPost post = drawn(2);
        post.saveState(0);
        undone(post);
        post.loadState(0);
        Check.due("undoCount", post.undoCount(), 1);
        post.undo();
        Check.due("drawnAt", post.drawnAt(0), 0);
        Check.due("undo", Check.answer(() -> post.undo()), "throws IllegalStateException");
    }

    // ---- 34: "Returns how many changes can be undone."

    static void promise34_newObject_is0() {
        Check.due("undoCount", new MotionPost().undoCount(), 0);
    }

    static void promise34_oneChange_is1() {
        Check.due("undoCount", drawn(1).undoCount(), 1);
    }

    static void promise34_fiveChanges_are5() {
        Check.due("undoCount", drawn(5).undoCount(), 5);
    }

    static void promise34_sixChanges_are6() {
        Check.due("undoCount", drawn(6).undoCount(), 6);
    }

    static void promise34_sevenChanges_are6() {
        Check.due("undoCount", drawn(7).undoCount(), 6);
    }

    static void promise34_sevenChangesAndOneUndone_are5() {
        MotionPost post = drawn(7);
        post.undo();
        Check.due("undoCount", post.undoCount(), 5);
    }

    static void promise34_allUndone_is0() {
        MotionPost post = drawn(6);
        undone(post);
        Check.due("undoCount", post.undoCount(), 0);
    }

    static void promise34_isNoChange() {
        Check.altersNothing("undoCount", Made::used, x -> x.undoCount());
    }

    // ---- 35: "slot: 0 or 1", "Throws IndexOutOfBoundsException if there is no such slot"

    static void promise35_slot0_isTheFirst() {
        MotionPost post = drawn(3);
        Check.due("saveState", post.saveState(0), 0);
        post.draw(0, 9);
        post.loadState(0);
        Check.due("drawnAt", post.drawnAt(0), 3);
    }

    static void promise35_slot1_isTheLast() {
        MotionPost post = drawn(3);
        Check.due("saveState", post.saveState(1), 0);
        post.draw(0, 9);
        post.loadState(1);
        Check.due("drawnAt", post.drawnAt(0), 3);
    }

    static void promise35_slotMinus1_throwsIndexOutOfBounds() {
        noSuch(x -> x.saveState(-1));
    }

    static void promise35_slot2_throwsIndexOutOfBounds() {
        noSuch(x -> x.saveState(2));
    }

    static void promise35_leastInt_throwsIndexOutOfBounds() {
        noSuch(x -> x.saveState(Integer.MIN_VALUE));
    }

    static void promise35_greatestInt_throwsIndexOutOfBounds() {
        noSuch(x -> x.saveState(Integer.MAX_VALUE));
    }

    // ---- 35: "Saves the state in a slot and replaces what was saved there. Returns how many pictures were sent."

    static void promise35_savedTwice_theSecondIsKept() {
        MotionPost post = drawn(1);
        post.saveState(0);
        post.draw(0, 2);
        post.saveState(0);
        post.draw(0, 3);
        post.loadState(0);
        Check.due("drawnAt", post.drawnAt(0), 2);
    }

    static void promise35_otherSlot_isNotReplaced() {
        MotionPost post = drawn(1);
        post.saveState(1);
        post.draw(0, 2);
        post.saveState(0);
        post.loadState(1);
        Check.due("drawnAt", post.drawnAt(0), 1);
    }

    static void promise35_otherSlot_isNotSavedToo() {
        wrongState(() -> {
            MotionPost post = drawn(1);
            post.saveState(1);
            return post;
        }, x -> x.loadState(0));
    }

    static void promise35_noPictureSent_returns0() {
        Check.due("saveState", new MotionPost().saveState(0), 0);
    }

    static void promise35_allPicturesSent_returns999() {
        Check.due("saveState", Made.afterPictures(999).saveState(1), 999);
    }

    static void promise35_lostPictures_countToo() {
        MotionPost post = new MotionPost();
        post.send(true);
        Check.due("saveState", post.saveState(0), 1);
    }

    static void promise35_isNoChange() {
        MotionPost post = Made.used();
        String before = Check.seen(Made.used());
        post.saveState(1);
        Check.due("what is seen", Check.seen(post), before);
    }

    static void promise35_changesBehindIt_doNotReachTheSlot() {
        MotionPost post = Made.used();
        String before = Check.seenState(Made.used());
        post.saveState(1);
        post.fill(0, 8, 8, 11);
        post.send(false);
        post.setBudget(4);
        post.setKeyDistance(1);
        post.send(true);
        post.loadState(1);
        Check.due("what was saved", Check.seenState(post), before);
        Check.due("budget", post.setBudget(4), 50);
        Check.due("key distance", post.setKeyDistance(1), 12);
    }

    // ---- 36: "Throws IndexOutOfBoundsException if there is no such slot", "Throws .. if nothing was saved in it"

    static void promise36_slotMinus1_throwsIndexOutOfBounds() {
        noSuch(x -> x.loadState(-1));
    }

    static void promise36_slot2_throwsIndexOutOfBounds() {
        noSuch(x -> x.loadState(2));
    }

    static void promise36_leastInt_throwsIndexOutOfBounds() {
        noSuch(x -> x.loadState(Integer.MIN_VALUE));
    }

    static void promise36_greatestInt_throwsIndexOutOfBounds() {
        noSuch(x -> x.loadState(Integer.MAX_VALUE));
    }

    static void promise36_noSuchSlotOfANewObject_throwsIndexOutOfBoundsFirst() {
        Check.refused("loadState", MotionPost::new, IndexOutOfBoundsException.class, x -> x.loadState(2));
    }

    static void promise36_slot0OfANewObject_throwsIllegalState() {
        wrongState(MotionPost::new, x -> x.loadState(0));
    }

    static void promise36_slot1OfANewObject_throwsIllegalState() {
        wrongState(MotionPost::new, x -> x.loadState(1));
    }

    static void promise36_slot1ThoughSlot0IsSaved_throwsIllegalState() {
        wrongState(Made::used, x -> x.loadState(1));
    }

    static void promise36_slotOfAnotherObject_throwsIllegalState() {
        wrongState(() -> {
            new MotionPost().saveState(0);
            return new MotionPost();
        }, x -> x.loadState(0));
    }

    // ---- 36: "the slot keeps it", "This is a change.", "Returns how many pictures were sent afterwards."

    static void promise36_loadedTwice_isTheSameTwice() {
        MotionPost post = drawn(3);
        post.saveState(0);
        post.draw(0, 9);
        post.loadState(0);
        post.draw(0, 10);
        Check.due("loadState", post.loadState(0), 0);
        Check.due("drawnAt", post.drawnAt(0), 3);
    }

    static void promise36_changesBehindIt_doNotReachTheSlot() {
        MotionPost post = drawn(3);
        post.saveState(0);
        post.loadState(0);
        post.draw(0, 9);
        post.send(false);
        Check.due("loadState", post.loadState(0), 0);
        Check.due("drawnAt", post.drawnAt(0), 3);
    }

    static void promise36_noPictureInTheState_returns0() {
        MotionPost post = new MotionPost();
        post.saveState(0);
        post.send(false);
        Check.due("loadState", post.loadState(0), 0);
        Check.due("pictureCount", post.pictureCount(), 0);
    }

    static void promise36_allPicturesInTheState_returns999() {
        MotionPost post = Made.afterPictures(999);
        post.saveState(0);
        post.undo();
        Check.due("loadState", post.loadState(0), 999);
        Check.due("send", Check.answer(() -> post.send(false)), "throws IllegalStateException");
    }

    static void promise36_fullHistory_dropsTheOldestState() {
        MotionPost post = new MotionPost();
        post.saveState(0);
        for (int value = 1; value <= 6; value++) {
            post.draw(0, value);
        }
        post.loadState(0);
        Check.due("values", undone(post), "6 5 4 3 2 1 ");
    }

    static void promise36_text_stays() {
        MotionPost post = new MotionPost();
        post.saveState(0);
        Check.append(post, "s;u");
        post.loadState(0);
        Check.due("textLength", post.textLength(), 3);
    }

    static void promise36_otherSlot_stays() {
        MotionPost post = drawn(1);
        post.saveState(0);
        post.draw(0, 2);
        post.saveState(1);
        post.loadState(0);
        post.loadState(1);
        Check.due("drawnAt", post.drawnAt(0), 2);
    }
}
