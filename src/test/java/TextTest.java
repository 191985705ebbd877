import java.util.function.Supplier;

/** Promises 28 to 32. */
public final class TextTest {
    private static final Class<IllegalArgumentException> NO_CHARACTERS = IllegalArgumentException.class;
    private static final Class<IllegalStateException> WRONG_STATE = IllegalStateException.class;

    public static void main(String[] args) {
        promise28AppendText();
        promise28WrongNumbers();
        promise28FullText();
        promises29And30ClearTextAndLength();
        promise31TextError();
        promise32Commands();
        promise32FailingCommands();
        promise32OneChange();
        promise32WrongTexts();
        Check.end("TextTest");
    }

    private static void promise28AppendText() {
        MotionPost post = new MotionPost();
        Check.due("28: one character", post.appendText('p'), 1);
        Check.due("28: two more, in order", post.appendText('3' << 8 | '='), 3);
        Check.due("28: eight more", post.appendText(Check.packed("7;u;d;l;")), 11);
        Check.due("28: and the last", post.appendText('r'), 12);
        Check.due("31: in order", post.textError(), MotionPost.NONE);
        Check.due("28: no change", post.undoCount(), 0);
        Check.due("28: the least code", new MotionPost().appendText(33), 1);
        Check.due("28: the greatest code", new MotionPost().appendText(126), 1);
        Check.due("28: eight greatest codes", new MotionPost().appendText(0x7e7e7e7e7e7e7e7eL), 8);
        Check.due("28: eight least codes", new MotionPost().appendText(0x2121212121212121L), 8);
    }

    /** Gives objects with a text that is appended to a new one each time. */
    private static Supplier<MotionPost> withText(String text) {
        return () -> {
            MotionPost post = new MotionPost();
            Check.append(post, text);
            return post;
        };
    }

    private static void promise28WrongNumbers() {
        Supplier<MotionPost> made = withText("u");
        long[] wrong = {
            0, 32, 127, 1, 128, 255, 256, -1, Long.MIN_VALUE, Long.MAX_VALUE,
            'u' << 16, 'u' << 16 | 'u', 'u' << 8, 32 << 8 | 'u', 127 << 8 | 'u', 'u' << 8 | 32,
            0x7500000000000075L, 0x0100000000000075L, 0x7f75757575757575L, 0x2075757575757575L, 0xf575757575757575L,
            0x7575750075757575L, 0x0075757575757520L
        };
        for (long characters : wrong) {
            Check.refused("28: appendText(" + characters + ")", made, NO_CHARACTERS, x -> x.appendText(characters));
        }
        MotionPost post = new MotionPost();
        post.appendText('u');
        Check.answer(() -> post.appendText('u' << 16 | 'u'));
        Check.due("28: it can go on", post.appendText(';' << 8 | 'd'), 3);
        Check.due("31: nothing wrong was appended", post.textError(), MotionPost.NONE);
    }

    private static void promise28FullText() {
        MotionPost post = new MotionPost();
        Check.append(post, "u;".repeat(36));
        Check.due("28: up to 80", post.appendText(Check.packed("u;u;u;d;")), 80);
        Supplier<MotionPost> made = withText("u;".repeat(40));
        Check.refused("28: 81", made, WRONG_STATE, x -> x.appendText('u'));
        Check.refused("28: 88", made, WRONG_STATE, x -> x.appendText(Check.packed("u;u;u;u;")));
        Check.refused("28: wrong characters come first", made, NO_CHARACTERS, x -> x.appendText(0));
        post.clearText();
        Check.append(post, "u;".repeat(36) + "u;u;u");
        Check.due("28: 77", post.textLength(), 77);
        Check.refused("28: 77 and 4", withText("u;".repeat(38) + "u"), WRONG_STATE, x -> x.appendText(Check.packed(";u;u")));
        Check.due("28: 77 and 2", post.appendText(Check.packed(";u")), 79);
        Check.due("31: 79 characters", post.textError(), MotionPost.NONE);
        Check.due("28: 79 and 1", post.appendText(';'), 80);
        Check.due("31: incomplete, 80 characters", post.textError(), 80);
    }

    private static void promises29And30ClearTextAndLength() {
        MotionPost post = new MotionPost();
        Check.due("30: empty", post.textLength(), 0);
        Check.due("29: empty", post.clearText(), 0);
        Check.append(post, "p1=2;!!!zz");
        Check.due("30: length", post.textLength(), 10);
        Check.due("29: the length that it had", post.clearText(), 10);
        Check.due("30: emptied", post.textLength(), 0);
        Check.due("31: emptied", post.textError(), 0);
        Check.due("29: no change", post.undoCount(), 0);
        Check.append(post, "s");
        post.draw(0, 1);
        post.undo();
        Check.due("30: undo leaves the text", post.textLength(), 1);
        Check.append(post, ";u");
        post.saveState(0);
        post.clearText();
        post.loadState(0);
        Check.due("30: loadState leaves the text", post.textLength(), 0);
    }

    private static void promise31TextError() {
        String[] correct = {
            "u", "d", "l", "r", "s", "x", "p0=0", "p9=9", "p10=10", "p99=99", "p0=10", "p64=16", "s;s", "u;p1=2;x",
            "p1=2;p3=4", "p1=0;u"
        };
        for (String text : correct) {
            error(text, MotionPost.NONE);
        }
        String[] incomplete = {"p", "p0", "p1", "p12", "p0=", "p12=", "u;", "p1=2;", "u;p", "u;p1=2;"};
        for (String text : incomplete) {
            error(text, text.length());
        }
        // The character behind the bar is the first that cannot stand there.
        String[] wrong = {
            "|;", "|1", "|=", "|U", "|P", "|z", "|~", "|!", "|a;s", "u|u", "u|1", "u|=", "u|p", "u;|;", "s|s;s",
            "p|p", "p|=", "p|;", "p|-1=1", "p|+", "p0|0", "p0|1=1", "p0|;", "p0|p", "p1|;", "p1|u", "p1|x", "p12|3",
            "p12|;", "p100|".substring(0, 3) + "|0", "p1=|;", "p1=|=", "p1=|u", "p1=|-", "p1=0|0", "p1=0|5", "p1=0|=",
            "p1=2|=", "p1=2|u", "p1=2|p", "p1=23|4", "p1=23|=", "p1=23|u", "u;d;|z;u", "p1=2;|1", "u;p1=2|:", "u|/",
            "p|/", "p|:", "p1|/", "p1|:", "p1=|/", "p1=|:"
        };
        for (String text : wrong) {
            int bar = text.indexOf('|');
            error(text.substring(0, bar) + text.substring(bar + 1), bar);
        }
        MotionPost post = new MotionPost();
        Check.due("31: empty", post.textError(), 0);
    }

    private static void error(String text, int due) {
        MotionPost post = new MotionPost();
        Check.append(post, text);
        Check.due("31: textError of " + text, post.textError(), due);
        Check.due("31: it changes nothing", post.textLength(), text.length());
        if (due != MotionPost.NONE) {
            Supplier<MotionPost> made = withText(text);
            Check.refused("32: runText of " + text, made, WRONG_STATE, x -> x.runText());
        }
    }

    private static MotionPost painted() {
        MotionPost post = new MotionPost();
        for (int pixel = 0; pixel < 64; pixel++) {
            post.draw(pixel, (pixel * 7 + pixel / 8) % 16);
        }
        return post;
    }

    private static void promise32Commands() {
        String[] texts = {"u", "d", "l", "r", "s", "x", "p0=15", "p63=0", "p9=1"};
        for (String text : texts) {
            MotionPost byText = painted();
            MotionPost byCall = painted();
            Check.due("32: " + text, Check.run(byText, text), 1);
            switch (text) {
                case "u" -> byCall.scroll(1, 0);
                case "d" -> byCall.scroll(-1, 0);
                case "l" -> byCall.scroll(0, 1);
                case "r" -> byCall.scroll(0, -1);
                case "s" -> byCall.send(false);
                case "x" -> byCall.send(true);
                case "p0=15" -> byCall.draw(0, 15);
                case "p63=0" -> byCall.draw(63, 0);
                default -> byCall.draw(9, 1);
            }
            Check.due("32: what " + text + " does", Check.seen(byText), Check.seen(byCall));
        }
        MotionPost post = painted();
        Check.due("32: all in order", Check.run(post, "p10=3;s;p11=12;u;u;l;x;r;d;s;s"), 11);
        MotionPost same = painted();
        same.draw(10, 3);
        same.send(false);
        same.draw(11, 12);
        same.scroll(1, 0);
        same.scroll(1, 0);
        same.scroll(0, 1);
        same.send(true);
        same.scroll(0, -1);
        same.scroll(-1, 0);
        same.send(false);
        same.send(false);
        Check.due("32: what all do", Check.seenState(post), Check.seenState(same));
        Check.due("30: the text is empty then", post.textLength(), 0);
        MotionPost full = new MotionPost();
        Check.due("32: forty commands", Check.run(full, "s;".repeat(39) + "x"), 40);
        Check.due("23: forty pictures", full.pictureCount(), 40);
        Check.due("25: their bits", full.bitCount(), 5 * 264 + 35 * 4);
        Check.due("24: the last is lost", full.lostCount(), 1);
    }

    private static void promise32FailingCommands() {
        MotionPost post = new MotionPost();
        Check.due("32: pixel 64", Check.run(post, "p1=1;p2=2;p64=3;p4=4"), 2);
        Check.due("32: those before it", post.drawnAt(1) * 16 + post.drawnAt(2), 18);
        Check.due("32: those after it", post.drawnAt(4), 0);
        Check.due("30: the text is empty all the same", post.textLength(), 0);
        Check.due("32: value 16", Check.run(post, "p3=16;p4=4"), 0);
        Check.due("32: nothing drawn", post.drawnAt(3) + post.drawnAt(4), 0);
        Check.due("30: empty again", post.textLength(), 0);
        Check.due("32: a change, though nothing was executed", post.undoCount(), 2);
        Check.due("32: 99", Check.run(post, "u;p99=99"), 1);
        Check.due("32: the edges", Check.run(post, "p63=15;p0=0"), 2);
    }

    private static void promise32OneChange() {
        MotionPost post = painted();
        String before = Check.seenState(post);
        post.saveState(0);
        post.loadState(0);
        Check.run(post, "s;u;x;p0=1;l;s");
        Check.due("33: undo", post.undo(), 5);
        Check.due("33: all commands at once", Check.seenState(post), before);
        Check.due("33: the text is no part of it", post.textLength(), 0);
        MotionPost fresh = new MotionPost();
        Check.run(fresh, "s;s;s;s;s;s;s;s");
        Check.due("34: one change", fresh.undoCount(), 1);
    }

    private static void promise32WrongTexts() {
        Check.refused("32: empty", MotionPost::new, WRONG_STATE, x -> x.runText());
        Check.refused("32: incomplete", withText("s;s;"), WRONG_STATE, x -> x.runText());
        Check.refused("32: wrong", withText("s;q"), WRONG_STATE, x -> x.runText());
        MotionPost post = new MotionPost();
        Check.append(post, "s;s;");
        Check.answer(() -> post.runText());
        Check.append(post, "s");
        Check.due("32: complete now", post.runText(), 3);
        Check.append(post, "s;q");
        Check.answer(() -> post.runText());
        Check.due("32: not emptied", post.clearText(), 3);
        Check.due("32: no change", post.undoCount(), 1);
    }
}
