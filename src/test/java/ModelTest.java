import java.util.function.Supplier;

/** All promises: long runs of calls, the same ones each time, answered by the class and by PlainPost. */
public final class ModelTest {
    private static final int RUNS = 300;
    private static final int CALLS = 512;
    private static final String SIGNS = "pudlrsx0123456789=;zP";

    private final MotionPost post = new MotionPost();
    private final PlainPost plain = new PlainPost();
    private final int run;
    private long seed;
    private int calls = 0;

    private ModelTest(int run) {
        this.run = run;
        seed = run * 7919L + 17;
    }

    public static void main(String[] args) {
        for (int run = 0; run < RUNS; run++) {
            new ModelTest(run).all();
        }
        Check.end("ModelTest");
    }

    /** A number from 0 on, less than the bound; the same ones in each run of the tests. */
    private int any(int bound) {
        seed = seed * 6364136223846793005L + 1442695040888963407L;
        return (int) Math.floorMod(seed >>> 33, (long) bound);
    }

    /** Mostly least to greatest, sometimes next to them, seldom far away. */
    private int within(int least, int greatest) {
        switch (any(40)) {
            case 0:
                return least - 1;
            case 1:
                return greatest + 1;
            case 2:
                return any(2) == 0 ? Integer.MIN_VALUE : Integer.MAX_VALUE;
            default:
                return least + any(greatest - least + 1);
        }
    }

    private void same(String call, Supplier<?> got, Supplier<?> want) {
        calls++;
        Check.due("run " + run + ", call " + calls + ": " + call, Check.answer(got), Check.answer(want));
    }

    private void all() {
        while (calls < CALLS) {
            int kind = any(100);
            if (kind < 30) {
                change();
            } else if (kind < 50) {
                text();
            } else if (kind < 58) {
                history();
            } else if (kind < 80) {
                lookAtPictures();
            } else {
                lookAtBlocks();
            }
        }
    }

    private void change() {
        int pixel = within(0, 63);
        int value = within(0, 15);
        switch (any(run % 3 == 0 ? 6 : 12)) {
            case 0:
                same("setBudget(" + value * 20 + ")", () -> post.setBudget(value * 20), () -> plain.setBudget(value * 20));
                break;
            case 1:
                int distance = within(1, 20);
                same("setKeyDistance(" + distance + ")", () -> post.setKeyDistance(distance),
                        () -> plain.setKeyDistance(distance));
                break;
            case 2:
                int height = within(1, 8);
                int width = within(1, 8);
                same("fill(" + pixel + ", " + height + ", " + width + ", " + value + ")",
                        () -> post.fill(pixel, height, width, value), () -> plain.fill(pixel, height, width, value));
                break;
            case 3:
            case 4:
                int down = within(-2, 2);
                int right = within(-2, 2);
                same("scroll(" + down + ", " + right + ")", () -> post.scroll(down, right),
                        () -> plain.scroll(down, right));
                break;
            case 5:
            case 6:
                boolean lost = any(3) == 0;
                same("send(" + lost + ")", () -> post.send(lost), () -> plain.send(lost));
                break;
            default:
                same("draw(" + pixel + ", " + value + ")", () -> post.draw(pixel, value), () -> plain.draw(pixel, value));
        }
    }

    private void text() {
        switch (any(6)) {
            case 0:
                same("runText()", () -> post.runText(), () -> plain.runText());
                break;
            case 1:
                same("textError()", () -> post.textError(), () -> plain.textError());
                break;
            case 2:
                same("textLength()", () -> post.textLength(), () -> plain.textLength());
                if (any(4) == 0 && calls < CALLS) {
                    same("clearText()", () -> post.clearText(), () -> plain.clearText());
                }
                break;
            default:
                long characters = characters();
                same("appendText(" + characters + ")", () -> post.appendText(characters),
                        () -> plain.appendText(characters));
        }
    }

    /** Mostly whole commands with what must stand before them, sometimes any signs or bits. */
    private long characters() {
        StringBuilder signs = new StringBuilder(plain.textLength() == 0 ? "" : ";");
        switch (any(12)) {
            case 0:
                return ((long) any(1 << 16) << 48 | (long) any(1 << 30) << 18 | any(1 << 18)) >>> any(64);
            case 1:
                for (int i = any(8); i >= 0 && signs.length() < 8; i--) {
                    signs.append(SIGNS.charAt(any(SIGNS.length())));
                }
                break;
            case 2:
            case 3:
            case 4:
                signs.append('p').append(any(70)).append('=').append(any(18));
                break;
            default:
                signs.append("udlrssx".charAt(any(7))).append(';').append("udlrssx".charAt(any(7)));
        }
        return Check.packed(signs.toString());
    }

    private void history() {
        int slot = any(20) == 0 ? within(0, 1) : any(2);
        switch (any(5)) {
            case 0:
            case 1:
                same("undo()", () -> post.undo(), () -> plain.undo());
                break;
            case 2:
                same("saveState(" + slot + ")", () -> post.saveState(slot), () -> plain.saveState(slot));
                break;
            case 3:
                same("loadState(" + slot + ")", () -> post.loadState(slot), () -> plain.loadState(slot));
                break;
            default:
                same("undoCount()", () -> post.undoCount(), () -> plain.undoCount());
        }
    }

    private void lookAtPictures() {
        int pixel = within(0, 63);
        switch (any(10)) {
            case 0:
                same("drawnAt(" + pixel + ")", () -> post.drawnAt(pixel), () -> plain.drawnAt(pixel));
                break;
            case 1:
                same("sentAt(" + pixel + ")", () -> post.sentAt(pixel), () -> plain.sentAt(pixel));
                break;
            case 2:
                same("receivedAt(" + pixel + ")", () -> post.receivedAt(pixel), () -> plain.receivedAt(pixel));
                break;
            case 3:
                same("error()", () -> post.error(), () -> plain.error());
                break;
            case 4:
                same("drift()", () -> post.drift(), () -> plain.drift());
                break;
            case 5:
                same("isKeyNext()", () -> post.isKeyNext(), () -> plain.isKeyNext());
                break;
            case 6:
                same("coarsenessNext()", () -> post.coarsenessNext(), () -> plain.coarsenessNext());
                break;
            case 7:
                same("bitsNext()", () -> post.bitsNext(), () -> plain.bitsNext());
                break;
            case 8:
                same("bitCount()", () -> post.bitCount(), () -> plain.bitCount());
                break;
            default:
                same("pictureCount()", () -> post.pictureCount(), () -> plain.pictureCount());
                if (calls < CALLS) {
                    same("lostCount()", () -> post.lostCount(), () -> plain.lostCount());
                }
        }
    }

    private void lookAtBlocks() {
        int block = within(0, 3);
        int move = within(0, 24);
        int q = within(1, 8);
        String of = "(" + block + ", " + q + ")";
        switch (any(9)) {
            case 0:
                same("distance(" + block + ", " + move + ")", () -> post.distance(block, move),
                        () -> plain.distance(block, move));
                break;
            case 1:
                same("bestMove(" + block + ")", () -> post.bestMove(block), () -> plain.bestMove(block));
                break;
            case 2:
                same("bestMoveByStopping(" + block + ")", () -> post.bestMoveByStopping(block),
                        () -> plain.bestMove(block));
                break;
            case 3:
                same("equalMoves(" + block + ")", () -> post.equalMoves(block), () -> plain.equalMoves(block));
                break;
            case 4:
                same("kindWith" + of, () -> post.kindWith(block, q), () -> plain.kindWith(block, q));
                break;
            case 5:
                same("bitsWith" + of, () -> post.bitsWith(block, q), () -> plain.bitsWith(block, q));
                break;
            case 6:
                same("bitsByWriting" + of, () -> post.bitsByWriting(block, q), () -> plain.bitsWith(block, q));
                break;
            case 7:
                same("lastKind(" + block + ")", () -> post.lastKind(block), () -> plain.lastKind(block));
                break;
            default:
                same("lastMove(" + block + ")", () -> post.lastMove(block), () -> plain.lastMove(block));
        }
    }
}
