import java.util.function.Function;

/** The edges of promises 28 to 32. */
public final class EdgesOfTextTest {
    public static void main(String[] args) throws IllegalAccessException {
        Check.runEach(EdgesOfTextTest.class);
    }

    private static void noChange(Function<MotionPost, ?> call) {
        Check.altersNothing("the call", Made::used, call);
    }

    // ---- 28: "Appends up to 8 characters to the text. The lowest 8 bits of the number are the last character"

    static void promise28_oneCharacter_isTheLeast() {
        MotionPost post = new MotionPost();
        Check.due("appendText", post.appendText('s'), 1);
        Check.due("textError", post.textError(), MotionPost.NONE);
    }

    static void promise28_eightCharacters_areTheMost() {
        MotionPost post = new MotionPost();
        Check.due("appendText", post.appendText(Check.packed("p1=2;s;u")), 8);
        Check.due("textError", post.textError(), MotionPost.NONE);
    }

    static void promise28_lowestBits_areTheLastCharacter() {
        MotionPost post = new MotionPost();
        post.appendText(0x753b);
        Check.due("appendText", post.appendText(0x73L), 3);
        Check.due("textError of u;s", post.textError(), MotionPost.NONE);
        MotionPost turned = new MotionPost();
        turned.appendText(0x3b75);
        Check.due("textError of ;u", turned.textError(), 0);
    }

    static void promise28_allEightInTheirOrder() {
        MotionPost post = new MotionPost();
        post.appendText(Check.packed("p12=13;p"));
        post.appendText(Check.packed("21=14"));
        Check.due("runText", post.runText(), 2);
        Check.due("pixel 12", post.drawnAt(12), 13);
        Check.due("pixel 21", post.drawnAt(21), 14);
    }

    // ---- 28: "the codes of the characters, each 33 to 126", "Throws .. if .. a code is out of range"

    private static void noCharacters(long characters) {
        Check.refused("appendText", Made::used, IllegalArgumentException.class, x -> x.appendText(characters));
    }

    static void promise28_code33_isTheLeast() {
        Check.due("appendText", new MotionPost().appendText(33), 1);
    }

    static void promise28_code126_isTheGreatest() {
        Check.due("appendText", new MotionPost().appendText(126), 1);
    }

    static void promise28_code32_throwsIllegalArgument() {
        noCharacters(32);
    }

    static void promise28_code127_throwsIllegalArgument() {
        noCharacters(127);
    }

    static void promise28_code1_throwsIllegalArgument() {
        noCharacters(1);
    }

    static void promise28_code128_throwsIllegalArgument() {
        noCharacters(128);
    }

    static void promise28_code255_throwsIllegalArgument() {
        noCharacters(255);
    }

    static void promise28_code33AsTheFirstOfEight_isAllowed() {
        Check.due("appendText", new MotionPost().appendText(0x2175757575757575L), 8);
    }

    static void promise28_code126AsTheFirstOfEight_isAllowed() {
        Check.due("appendText", new MotionPost().appendText(0x7e75757575757575L), 8);
    }

    static void promise28_code32AsTheFirstOfEight_throwsIllegalArgument() {
        noCharacters(0x2075757575757575L);
    }

    static void promise28_code127AsTheFirstOfEight_throwsIllegalArgument() {
        noCharacters(0x7f75757575757575L);
    }

    static void promise28_code128AsTheFirstOfEight_throwsIllegalArgument() {
        noCharacters(0x8075757575757575L);
    }

    static void promise28_code255AsTheFirstOfEight_throwsIllegalArgument() {
        noCharacters(0xff75757575757575L);
    }

    static void promise28_code32InTheMiddle_throwsIllegalArgument() {
        noCharacters(0x752075L);
    }

    static void promise28_code127InTheMiddle_throwsIllegalArgument() {
        noCharacters(0x757f75L);
    }

    static void promise28_code32AsTheLastOfEight_throwsIllegalArgument() {
        noCharacters(0x7575757575757520L);
    }

    static void promise28_code127AsTheLastOfEight_throwsIllegalArgument() {
        noCharacters(0x757575757575757fL);
    }

    static void promise28_minus1_throwsIllegalArgument() {
        noCharacters(-1L);
    }

    static void promise28_leastLong_throwsIllegalArgument() {
        noCharacters(Long.MIN_VALUE);
    }

    static void promise28_greatestLong_throwsIllegalArgument() {
        noCharacters(Long.MAX_VALUE);
    }

    // ---- 28: "the first group of 8 bits that is 0 ends the characters, and all higher bits must be 0",
    // "Throws .. if there is no character, .. or a bit above the end is not 0"

    static void promise28_noCharacter_throwsIllegalArgument() {
        noCharacters(0);
    }

    static void promise28_lowestGroup0AndACharacterAboveIt_throwsIllegalArgument() {
        noCharacters(0x7500L);
    }

    static void promise28_group0BetweenCharacters_throwsIllegalArgument() {
        noCharacters(0x750075L);
    }

    static void promise28_group0BetweenEightGroups_throwsIllegalArgument() {
        noCharacters(0x7575750075757575L);
    }

    static void promise28_lowestBitAboveTheEnd_throwsIllegalArgument() {
        noCharacters(0x010075L);
    }

    static void promise28_highestBitAboveTheEnd_throwsIllegalArgument() {
        noCharacters(0x8000000000000075L);
    }

    static void promise28_highestBitJustAboveSixCharacters_throwsIllegalArgument() {
        noCharacters(0x8000757575757575L);
    }

    static void promise28_sevenCharacters_endWithTheHighestGroup() {
        Check.due("appendText", new MotionPost().appendText(0x0075757575757575L), 7);
    }

    // ---- 28: "Throws IllegalStateException if the text would be longer than 80 characters"

    private static void tooLong(int length, String characters) {
        Check.refused("appendText", () -> Made.withText("s".repeat(length)), IllegalStateException.class,
                x -> x.appendText(Check.packed(characters)));
    }

    static void promise28_79CharactersAnd1More_are80() {
        Check.due("appendText", Made.withText("s".repeat(79)).appendText('s'), 80);
    }

    static void promise28_72CharactersAnd8More_are80() {
        Check.due("appendText", Made.withText("s".repeat(72)).appendText(Check.packed("ssssssss")), 80);
    }

    static void promise28_80CharactersAnd1More_throwsIllegalState() {
        tooLong(80, "s");
    }

    static void promise28_80CharactersAnd8More_throwsIllegalState() {
        tooLong(80, "ssssssss");
    }

    static void promise28_79CharactersAnd2More_throwsIllegalState() {
        tooLong(79, "ss");
    }

    static void promise28_73CharactersAnd8More_throwsIllegalState() {
        tooLong(73, "ssssssss");
    }

    static void promise28_fullTextAndNoCharacter_throwsIllegalArgumentFirst() {
        Check.refused("appendText", () -> Made.withText("s".repeat(80)), IllegalArgumentException.class,
                x -> x.appendText(0));
    }

    static void promise28_fullTextAndAWrongCode_throwsIllegalArgumentFirst() {
        Check.refused("appendText", () -> Made.withText("s".repeat(80)), IllegalArgumentException.class,
                x -> x.appendText(127));
    }

    static void promise28_refusedBeyond80_fewerCharactersStillFit() {
        MotionPost post = Made.withText("s".repeat(79));
        Check.answer(() -> post.appendText(Check.packed("ss")));
        Check.due("appendText", post.appendText('s'), 80);
    }

    static void promise28_isNoChange() {
        MotionPost post = Made.used();
        String before = Check.seenState(post);
        post.appendText('u');
        Check.due("the state", Check.seenState(post), before);
        Check.due("undoCount", post.undoCount(), 6);
    }

    // ---- 29: "Empties the text. Returns the length that it had."

    static void promise29_emptyText_returns0() {
        MotionPost post = new MotionPost();
        Check.due("clearText", post.clearText(), 0);
        Check.due("textLength", post.textLength(), 0);
    }

    static void promise29_oneCharacter_returns1() {
        Check.due("clearText", Made.withText("s").clearText(), 1);
    }

    static void promise29_fullText_returns80() {
        MotionPost post = Made.withText("s".repeat(80));
        Check.due("clearText", post.clearText(), 80);
        Check.due("textLength", post.textLength(), 0);
        Check.due("appendText", post.appendText('s'), 1);
        Check.due("textError", post.textError(), MotionPost.NONE);
    }

    static void promise29_clearedTwice_returns0() {
        MotionPost post = Made.withText("s;s");
        post.clearText();
        Check.due("clearText", post.clearText(), 0);
    }

    static void promise29_isNoChange() {
        MotionPost post = Made.used();
        String before = Check.seenState(post);
        Check.due("clearText", post.clearText(), 8);
        Check.due("the state", Check.seenState(post), before);
        Check.due("undoCount", post.undoCount(), 6);
    }

    // ---- 30: "Returns the length of the text."

    static void promise30_emptyText_is0() {
        Check.due("textLength", new MotionPost().textLength(), 0);
    }

    static void promise30_oneCharacter_is1() {
        Check.due("textLength", Made.withText("q").textLength(), 1);
    }

    static void promise30_fullText_is80() {
        Check.due("textLength", Made.withText("s".repeat(80)).textLength(), 80);
    }

    static void promise30_refusedText_staysAsLong() {
        MotionPost post = Made.withText("s;");
        Check.answer(() -> post.runText());
        Check.due("textLength", post.textLength(), 2);
    }

    static void promise30_executedText_is0() {
        MotionPost post = Made.withText("s;s");
        post.runText();
        Check.due("textLength", post.textLength(), 0);
    }

    static void promise30_isNoChange() {
        noChange(x -> x.textLength());
    }

    // ---- 31: "Returns the index; the length of the text if it is incomplete (also if it is empty); NONE if the text
    // is correct."

    private static void error(String text, int due) {
        Check.due("textError of " + text, Made.withText(text).textError(), due);
    }

    private static void correct(String text) {
        error(text, MotionPost.NONE);
    }

    private static void incomplete(String text) {
        error(text, text.length());
    }

    static void promise31_emptyText_is0() {
        error("", 0);
    }

    static void promise31_eachCommandAlone_isCorrect() {
        correct("u");
        correct("d");
        correct("l");
        correct("r");
        correct("s");
        correct("x");
        correct("p0=0");
    }

    static void promise31_eachOtherCharacterAtTheBeginning_is0() {
        for (char code = 33; code <= 126; code++) {
            if ("pudlrsx".indexOf(code) < 0) {
                error("" + code, 0);
            }
        }
    }

    static void promise31_eachCharacterBehindAShortCommand_is1ButForTheSemicolon() {
        for (char code = 33; code <= 126; code++) {
            error("u" + code, code == ';' ? 2 : 1);
        }
    }

    static void promise31_eachCharacterBehindASemicolon_isLikeAtTheBeginning() {
        for (char code = 33; code <= 126; code++) {
            error("s;" + code, code == 'p' ? 3 : "udlrsx".indexOf(code) < 0 ? 2 : MotionPost.NONE);
        }
    }

    static void promise31_eachCharacterBehindP_is1ButForDigits() {
        for (char code = 33; code <= 126; code++) {
            error("p" + code, code >= '0' && code <= '9' ? 2 : 1);
        }
    }

    static void promise31_eachCharacterBehindAPixelFrom1To9_is2ButForDigitsAndEquals() {
        for (char code = 33; code <= 126; code++) {
            error("p1" + code, code >= '0' && code <= '9' || code == '=' ? 3 : 2);
        }
    }

    static void promise31_eachCharacterBehindThePixel0_is2ButForEquals() {
        for (char code = 33; code <= 126; code++) {
            error("p0" + code, code == '=' ? 3 : 2);
        }
    }

    static void promise31_eachCharacterBehindAPixelOfTwoDigits_is3ButForEquals() {
        for (char code = 33; code <= 126; code++) {
            error("p99" + code, code == '=' ? 4 : 3);
        }
    }

    static void promise31_eachCharacterBehindEquals_is3ButForDigits() {
        for (char code = 33; code <= 126; code++) {
            error("p5=" + code, code >= '0' && code <= '9' ? MotionPost.NONE : 3);
        }
    }

    static void promise31_eachCharacterBehindAValueFrom1To9_is4ButForDigitsAndTheSemicolon() {
        for (char code = 33; code <= 126; code++) {
            error("p5=9" + code, code == ';' ? 5 : code >= '0' && code <= '9' ? MotionPost.NONE : 4);
        }
    }

    static void promise31_eachCharacterBehindTheValue0_is4ButForTheSemicolon() {
        for (char code = 33; code <= 126; code++) {
            error("p5=0" + code, code == ';' ? 5 : 4);
        }
    }

    static void promise31_eachCharacterBehindAValueOfTwoDigits_is5ButForTheSemicolon() {
        for (char code = 33; code <= 126; code++) {
            error("p5=10" + code, code == ';' ? 6 : 5);
        }
    }

    static void promise31_pixel0_isTheLeast() {
        correct("p0=1");
    }

    static void promise31_pixel9_isTheGreatestOfOneDigit() {
        correct("p9=1");
    }

    static void promise31_pixel10_isTheLeastOfTwoDigits() {
        correct("p10=1");
    }

    static void promise31_pixel99_isTheGreatestThoughThereIsNoSuchPixel() {
        correct("p99=1");
    }

    static void promise31_pixel100_isAnErrorAtItsThirdDigit() {
        error("p100=1", 3);
    }

    static void promise31_pixel00_isAnErrorAtItsSecondDigit() {
        error("p00=1", 2);
    }

    static void promise31_pixel01_isAnErrorAtItsSecondDigit() {
        error("p01=1", 2);
    }

    static void promise31_noPixel_isAnErrorAtTheEqualsSign() {
        error("p=1", 1);
    }

    static void promise31_negativePixel_isAnErrorAtItsSign() {
        error("p-1=1", 1);
    }

    static void promise31_value0_isTheLeast() {
        correct("p1=0");
    }

    static void promise31_value9_isTheGreatestOfOneDigit() {
        correct("p1=9");
    }

    static void promise31_value10_isTheLeastOfTwoDigits() {
        correct("p1=10");
    }

    static void promise31_value99_isTheGreatestThoughItIsOutOfRange() {
        correct("p1=99");
    }

    static void promise31_value100_isAnErrorAtItsThirdDigit() {
        error("p1=100", 5);
    }

    static void promise31_value00_isAnErrorAtItsSecondDigit() {
        error("p1=00", 4);
    }

    static void promise31_value01_isAnErrorAtItsSecondDigit() {
        error("p1=01", 4);
    }

    static void promise31_noValue_isAnErrorAtTheSemicolon() {
        error("p1=;u", 3);
    }

    static void promise31_incompleteAtEachPlace_isTheLength() {
        incomplete("p");
        incomplete("p0");
        incomplete("p1");
        incomplete("p12");
        incomplete("p0=");
        incomplete("p12=");
        incomplete("u;");
        incomplete("p1=0;");
        incomplete("p1=2;");
        incomplete("p1=23;");
        incomplete("u;p1");
    }

    static void promise31_semicolonAlone_is0() {
        error(";", 0);
    }

    static void promise31_twoSemicolons_isAnErrorAtTheSecond() {
        error("u;;d", 2);
    }

    static void promise31_severalErrors_isTheFirst() {
        error("u;q;;z", 2);
    }

    static void promise31_errorBehindWhichNothingIsMissing_isNotTheLength() {
        error("u;q", 2);
    }

    static void promise31_capitalLetter_isAnError() {
        error("S", 0);
    }

    static void promise31_fullCorrectText_isNone() {
        correct("p1=1" + ";s".repeat(38));
    }

    static void promise31_fullIncompleteText_is80() {
        error("s;".repeat(40), 80);
    }

    static void promise31_errorAtTheLastCharacterOfAFullText_is79() {
        error("p1=1" + ";s".repeat(37) + ";q", 79);
    }

    static void promise31_textThatIsCompletedLater_isCorrectThen() {
        MotionPost post = Made.withText("p1=");
        Check.due("textError before", post.textError(), 3);
        post.appendText('5');
        Check.due("textError", post.textError(), MotionPost.NONE);
    }

    static void promise31_textEmptiedAfterAnError_is0() {
        MotionPost post = Made.withText("q");
        post.clearText();
        Check.due("textError", post.textError(), 0);
    }

    static void promise31_isNoChange() {
        noChange(x -> x.textError());
    }

    // ---- 32: "Throws IllegalStateException if the text has an error"

    private static void refused(String text) {
        Check.refused("runText", () -> Made.withText(text), IllegalStateException.class, x -> x.runText());
    }

    static void promise32_emptyText_throwsIllegalState() {
        refused("");
    }

    static void promise32_incompleteText_throwsIllegalState() {
        refused("s;s;");
    }

    static void promise32_errorInTheFirstCharacter_throwsIllegalState() {
        refused("q;s");
    }

    static void promise32_errorInTheLastCharacter_throwsIllegalStateAndExecutesNothing() {
        refused("p1=1;s;q");
    }

    static void promise32_fullIncompleteText_throwsIllegalState() {
        refused("s;".repeat(40));
    }

    static void promise32_textThatWasExecuted_isEmptyAndThrowsIllegalState() {
        Check.refused("runText", () -> {
            MotionPost post = Made.withText("s;s");
            post.runText();
            return post;
        }, IllegalStateException.class, x -> x.runText());
    }

    // ---- 32: "Executes the commands of the text in order, up to the first one that fails, and then empties the text."

    private static void sameAs(String text, Function<MotionPost, ?> call) {
        MotionPost byText = Made.used();
        MotionPost byCall = Made.used();
        byText.clearText();
        byCall.clearText();
        Check.due("runText", Check.run(byText, text), 1);
        call.apply(byCall);
        Check.due("what " + text + " does", Check.seen(byText), Check.seen(byCall));
    }

    static void promise32_u_isScrollOneDown() {
        sameAs("u", x -> x.scroll(1, 0));
    }

    static void promise32_d_isScrollOneUp() {
        sameAs("d", x -> x.scroll(-1, 0));
    }

    static void promise32_l_isScrollOneRight() {
        sameAs("l", x -> x.scroll(0, 1));
    }

    static void promise32_r_isScrollOneLeft() {
        sameAs("r", x -> x.scroll(0, -1));
    }

    static void promise32_s_isSend() {
        sameAs("s", x -> x.send(false));
    }

    static void promise32_x_isSendAndLost() {
        sameAs("x", x -> x.send(true));
    }

    static void promise32_p_isDraw() {
        sameAs("p9=7", x -> x.draw(9, 7));
    }

    static void promise32_firstPixelAndGreatestValue_areExecuted() {
        sameAs("p0=15", x -> x.draw(0, 15));
    }

    static void promise32_lastPixelAndLeastValue_areExecuted() {
        sameAs("p63=0", x -> x.draw(63, 0));
    }

    static void promise32_valueOfTwoDigits_isExecuted() {
        sameAs("p10=10", x -> x.draw(10, 10));
    }

    static void promise32_inOrder_drawnTwiceIsTheSecond() {
        MotionPost post = new MotionPost();
        Check.due("runText", Check.run(post, "p5=1;p5=2"), 2);
        Check.due("drawnAt", post.drawnAt(5), 2);
    }

    static void promise32_inOrder_drawnBehindSendIsNotSent() {
        MotionPost post = new MotionPost();
        Check.due("runText", Check.run(post, "p5=1;s;p5=2"), 3);
        Check.due("sentAt", post.sentAt(5), 1);
        Check.due("drawnAt", post.drawnAt(5), 2);
    }

    static void promise32_mostCommands_are40() {
        MotionPost post = new MotionPost();
        Check.due("runText", Check.run(post, "s;".repeat(39) + "s"), 40);
        Check.due("pictureCount", post.pictureCount(), 40);
    }

    static void promise32_fullText_isExecutedToItsLastCharacter() {
        MotionPost post = new MotionPost();
        Check.due("runText", Check.run(post, "p1=1" + ";s".repeat(38)), 39);
        Check.due("pictureCount", post.pictureCount(), 38);
    }

    /** What is executed of a text in which one command fails: the pixels 1 and 2 are drawn before and behind it. */
    private static void fails(String command) {
        MotionPost post = new MotionPost();
        Check.due("runText", Check.run(post, "p1=1;" + command + ";p2=2"), 1);
        Check.due("before it", post.drawnAt(1), 1);
        Check.due("behind it", post.drawnAt(2), 0);
        Check.due("textLength", post.textLength(), 0);
        Check.due("undoCount", post.undoCount(), 1);
        post.undo();
        Check.due("undone", Check.seen(post), Check.seen(new MotionPost()));
    }

    static void promise32_pixel64_fails() {
        fails("p64=0");
    }

    static void promise32_pixel99_fails() {
        fails("p99=0");
    }

    static void promise32_value16_fails() {
        fails("p3=16");
    }

    static void promise32_value99_fails() {
        fails("p3=99");
    }

    static void promise32_pixel64AndValue16_fail() {
        fails("p64=16");
    }

    static void promise32_firstCommandFails_returns0AndIsAChangeToo() {
        MotionPost post = new MotionPost();
        Check.due("runText", Check.run(post, "p64=0;p2=2"), 0);
        Check.due("textLength", post.textLength(), 0);
        Check.due("drawnAt", post.drawnAt(2), 0);
        Check.due("undoCount", post.undoCount(), 1);
    }

    static void promise32_lastCommandFails_theOthersAreExecuted() {
        MotionPost post = new MotionPost();
        Check.due("runText", Check.run(post, "p1=1;p2=2;p64=0"), 2);
        Check.due("drawnAt", post.drawnAt(2), 2);
    }

    static void promise32_picture998ByText_isTheLastThatIsSent() {
        MotionPost post = Made.afterPictures(998);
        Check.due("runText", Check.run(post, "p1=1;s;s;p2=2"), 2);
        Check.due("pictureCount", post.pictureCount(), 999);
        Check.due("sentAt", post.sentAt(1), 1);
        Check.due("drawnAt", post.drawnAt(2), 0);
    }

    static void promise32_sendAfter999Pictures_fails() {
        MotionPost post = Made.afterPictures(999);
        Check.due("runText", Check.run(post, "s;p2=2"), 0);
        Check.due("pictureCount", post.pictureCount(), 999);
        Check.due("drawnAt", post.drawnAt(2), 0);
    }

    static void promise32_lostSendAfter999Pictures_fails() {
        MotionPost post = Made.afterPictures(999);
        Check.due("runText", Check.run(post, "u;x;p2=2"), 1);
        Check.due("lostCount", post.lostCount(), 0);
        Check.due("drawnAt", post.drawnAt(2), 0);
    }

    // ---- 32: "This is one change, however many commands are executed."

    static void promise32_oneCommand_isOneChange() {
        MotionPost post = new MotionPost();
        Check.run(post, "u");
        Check.due("undoCount", post.undoCount(), 1);
    }

    static void promise32_fortyCommands_areOneChange() {
        MotionPost post = new MotionPost();
        post.draw(0, 5);
        String before = Check.seenState(post);
        Check.run(post, "s;x;".repeat(19) + "d;r");
        Check.due("undoCount", post.undoCount(), 2);
        Check.due("undo", post.undo(), 1);
        Check.due("undone", Check.seenState(post), before);
    }

    static void promise32_undone_theTextStaysEmpty() {
        MotionPost post = new MotionPost();
        Check.run(post, "s;u");
        post.undo();
        Check.due("textLength", post.textLength(), 0);
    }
}
