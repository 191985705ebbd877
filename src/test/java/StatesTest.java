import java.util.ArrayList;
import java.util.List;
import java.util.function.Supplier;

/** Promises 33 to 36. */
public final class StatesTest {
    private static final Class<IndexOutOfBoundsException> NO_SUCH = IndexOutOfBoundsException.class;
    private static final Class<IllegalStateException> WRONG_STATE = IllegalStateException.class;

    public static void main(String[] args) {
        promise33UndoEachChange();
        promise33SixStates();
        promise33WhatIsNoPart();
        promise34UndoCount();
        promise35SaveState();
        promise36LoadState();
        promise36LoadStateIsAChange();
        Check.end("StatesTest");
    }

    private static List<Runnable> changes(MotionPost post) {
        List<Runnable> changes = new ArrayList<>();
        changes.add(() -> post.draw(9, 13));
        changes.add(() -> post.fill(20, 3, 3, 4));
        changes.add(() -> post.scroll(1, -1));
        changes.add(() -> post.send(false));
        changes.add(() -> post.send(true));
        changes.add(() -> post.setBudget(4));
        changes.add(() -> post.setKeyDistance(3));
        changes.add(() -> Check.run(post, "s;r;x;p7=7"));
        changes.add(() -> post.loadState(0));
        return changes;
    }

    /** A state in which all parts differ from those of a new object, and another one in slot 0. */
    private static MotionPost used() {
        MotionPost post = new MotionPost();
        post.draw(5, 6);
        post.send(false);
        post.saveState(0);
        post.scroll(1, 1);
        post.send(true);
        post.fill(30, 4, 2, 9);
        post.setBudget(50);
        post.setKeyDistance(12);
        post.send(false);
        post.draw(1, 15);
        return post;
    }

    private static void promise33UndoEachChange() {
        int count = changes(used()).size();
        for (int i = 0; i < count; i++) {
            MotionPost post = used();
            String before = Check.seenState(used());
            changes(post).get(i).run();
            Check.due("33: change " + i + " is seen", Check.seenState(post).equals(before), false);
            Check.due("33: undo change " + i, post.undo(), 5);
            Check.due("33: after undo of change " + i, Check.seenState(post), before);
            Check.due("6: the budget", post.setBudget(100), 50);
            Check.due("7: the key distance", post.setKeyDistance(10), 12);
        }
    }

    private static void promise33SixStates() {
        MotionPost post = new MotionPost();
        for (int change = 1; change <= 9; change++) {
            post.draw(0, change);
        }
        for (int left = 5; left >= 0; left--) {
            Check.due("33: undo", post.undo(), left);
            Check.due("33: the state before", post.drawnAt(0), left + 3);
        }
        Supplier<MotionPost> made = () -> {
            MotionPost undone = used();
            for (int time = 0; time < 6; time++) {
                undone.undo();
            }
            return undone;
        };
        Check.refused("33: no more", made, WRONG_STATE, x -> x.undo());
        for (int change = 10; change <= 13; change++) {
            post.draw(0, change);
        }
        Check.due("33: undo of new changes", post.undo(), 3);
        Check.due("33: the state before them", post.drawnAt(0), 12);
        post.undo();
        post.draw(0, 14);
        Check.due("33: undo between changes", post.undo(), 2);
        Check.due("33: the state between", post.drawnAt(0), 11);
        post.undo();
        Check.due("33: the last", post.undo(), 0);
        Check.due("33: the oldest state", post.drawnAt(0), 3);
    }

    private static void promise33WhatIsNoPart() {
        MotionPost post = new MotionPost();
        Check.append(post, "s;u");
        post.draw(0, 5);
        post.saveState(1);
        Check.append(post, ";d");
        post.undo();
        Check.due("33: the text stays", post.textLength(), 5);
        Check.due("36: the slot stays", post.loadState(1), 0);
        Check.due("36: with what it had", post.drawnAt(0), 5);
        post.undo();
        Check.due("33: loadState undone", post.drawnAt(0), 0);
        Check.due("33: the history is no part of it", post.undoCount(), 0);
    }

    private static void promise34UndoCount() {
        MotionPost post = new MotionPost();
        Check.due("34: at first", post.undoCount(), 0);
        for (int change = 1; change <= 8; change++) {
            post.setBudget(120);
            Check.due("34: after " + change, post.undoCount(), Math.min(change, 6));
        }
        post.undo();
        Check.due("34: after undo", post.undoCount(), 5);
        MotionPost each = new MotionPost();
        each.saveState(0);
        Check.due("34: saveState is no change", each.undoCount(), 0);
        int count = 0;
        for (Runnable change : changes(each)) {
            change.run();
            count++;
            Check.due("34: a change", each.undoCount(), Math.min(count, 6));
        }
    }

    private static void promise35SaveState() {
        MotionPost post = new MotionPost();
        Check.due("35: nothing sent", post.saveState(0), 0);
        post.send(false);
        post.send(true);
        Check.due("35: two pictures", post.saveState(1), 2);
        Check.due("35: no change", post.undoCount(), 2);
        post.draw(0, 1);
        Check.due("36: the first slot", post.loadState(0), 0);
        Check.due("36: the second slot", post.loadState(1), 2);
        post.send(false);
        Check.due("35: replaced", post.saveState(0), 3);
        Check.due("36: the other one stays", post.loadState(1), 2);
        Check.due("36: replaced", post.loadState(0), 3);
        Supplier<MotionPost> made = StatesTest::used;
        for (int slot : new int[] {-1, 2, Integer.MIN_VALUE, Integer.MAX_VALUE}) {
            Check.refused("35: slot " + slot, made, NO_SUCH, x -> x.saveState(slot));
            Check.refused("36: slot " + slot, made, NO_SUCH, x -> x.loadState(slot));
        }
    }

    private static void promise36LoadState() {
        Check.refused("36: nothing saved", StatesTest::used, WRONG_STATE, x -> x.loadState(1));
        String saved = Check.seenState(used());
        MotionPost post = used();
        Check.due("35: saveState", post.saveState(1), 3);
        for (int time = 0; time < 2; time++) {
            for (Runnable change : changes(post)) {
                change.run();
            }
            Check.due("36: loadState", post.loadState(1), 3);
            Check.due("36: all of the state", Check.seenState(post), saved);
        }
        Check.due("36: the budget too", post.setBudget(100), 50);
        Check.due("36: the key distance too", post.setKeyDistance(10), 12);
        Check.due("36: slots are of one object", Check.answer(() -> new MotionPost().loadState(1)),
                "throws IllegalStateException");
    }

    private static void promise36LoadStateIsAChange() {
        MotionPost post = new MotionPost();
        post.saveState(0);
        post.draw(0, 5);
        post.send(false);
        String before = Check.seenState(post);
        post.loadState(0);
        Check.due("36: recorded", post.undoCount(), 3);
        Check.due("33: undo of loadState", post.undo(), 2);
        Check.due("33: the state before it", Check.seenState(post), before);
        post.loadState(0);
        post.loadState(0);
        Check.due("36: recorded, though nothing alters", post.undoCount(), 4);
    }
}
