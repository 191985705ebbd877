import java.util.ArrayDeque;
import java.util.Deque;
import java.util.regex.Matcher;
import java.util.regex.Pattern;

/**
 * The document once more, as plainly as the Java library allows and without regard to room, for ModelTest to
 * compare with: pictures of rows, states that are copied whole, bits written as texts, a text read by a pattern.
 */
final class PlainPost {
    private static final String NUMBER = "(0|[1-9][0-9]?)";
    private static final String COMMAND = "(p" + NUMBER + "=" + NUMBER + "|[udlrsx])";
    private static final Pattern TEXT = Pattern.compile(COMMAND + "(;" + COMMAND + ")*");

    private static final class State {
        int[][] drawn = new int[8][8];
        int[][] sent = new int[8][8];
        int[][] received = new int[8][8];
        int[] kinds = {-1, -1, -1, -1};
        int[] moves = {-1, -1, -1, -1};
        int budget = 120;
        int keyDistance = 8;
        int pictures;
        int lost;
        int bits;

        State copy() {
            State copy = new State();
            copy.drawn = rows(drawn);
            copy.sent = rows(sent);
            copy.received = rows(received);
            copy.kinds = kinds.clone();
            copy.moves = moves.clone();
            copy.budget = budget;
            copy.keyDistance = keyDistance;
            copy.pictures = pictures;
            copy.lost = lost;
            copy.bits = bits;
            return copy;
        }

        private static int[][] rows(int[][] picture) {
            int[][] copy = new int[8][];
            for (int row = 0; row < 8; row++) {
                copy[row] = picture[row].clone();
            }
            return copy;
        }
    }

    private State now = new State();
    private final Deque<State> recorded = new ArrayDeque<>();
    private final State[] slots = new State[2];
    private String text = "";

    private void record() {
        recorded.addLast(now.copy());
        if (recorded.size() > 6) {
            recorded.removeFirst();
        }
    }

    private static void index(int index, int size) {
        if (index < 0 || index >= size) {
            throw new IndexOutOfBoundsException();
        }
    }

    private static void argument(boolean right) {
        if (!right) {
            throw new IllegalArgumentException();
        }
    }

    private static void state(boolean right) {
        if (!right) {
            throw new IllegalStateException();
        }
    }

    int draw(int pixel, int value) {
        index(pixel, 64);
        argument(value >= 0 && value <= 15);
        record();
        int previous = now.drawn[pixel / 8][pixel % 8];
        now.drawn[pixel / 8][pixel % 8] = value;
        return previous;
    }

    int fill(int pixel, int height, int width, int value) {
        index(pixel, 64);
        argument(height >= 1 && height <= 8 && width >= 1 && width <= 8 && value >= 0 && value <= 15);
        record();
        int changed = 0;
        for (int row = 0; row < 8; row++) {
            for (int column = 0; column < 8; column++) {
                int below = row - pixel / 8;
                int beside = column - pixel % 8;
                if (below >= 0 && below < height && beside >= 0 && beside < width && now.drawn[row][column] != value) {
                    now.drawn[row][column] = value;
                    changed++;
                }
            }
        }
        return changed;
    }

    private static int at(int[][] picture, int row, int column) {
        return picture[Math.min(7, Math.max(0, row))][Math.min(7, Math.max(0, column))];
    }

    int scroll(int down, int right) {
        argument(Math.abs((long) down) <= 2 && Math.abs((long) right) <= 2);
        record();
        int[][] scrolled = new int[8][8];
        int changed = 0;
        for (int row = 0; row < 8; row++) {
            for (int column = 0; column < 8; column++) {
                scrolled[row][column] = at(now.drawn, row + down, column + right);
                changed += scrolled[row][column] != now.drawn[row][column] ? 1 : 0;
            }
        }
        now.drawn = scrolled;
        return changed;
    }

    int send(boolean lost) {
        state(now.pictures < 999);
        record();
        int bits = bitsNext();
        int q = coarsenessNext();
        State old = now.copy();
        for (int block = 0; block < 4; block++) {
            int kind = q == -1 ? 0 : kind(old, block, q);
            int move = kind == 0 ? -1 : best(old, block);
            now.kinds[block] = kind;
            now.moves[block] = move;
            for (int row = 4 * (block / 2); row < 4 * (block / 2) + 4; row++) {
                for (int column = 4 * (block % 2); column < 4 * (block % 2) + 4; column++) {
                    int sent = old.drawn[row][column];
                    int received = sent;
                    if (kind != 0) {
                        int prediction = at(old.sent, row + move / 5 - 2, column + move % 5 - 2);
                        int addition = (old.drawn[row][column] - prediction) / q * q;
                        sent = prediction + addition;
                        received = at(old.received, row + move / 5 - 2, column + move % 5 - 2) + addition;
                    }
                    now.sent[row][column] = sent;
                    if (!lost) {
                        now.received[row][column] = received < 0 ? 0 : received > 15 ? 15 : received;
                    }
                }
            }
        }
        now.pictures++;
        now.lost += lost ? 1 : 0;
        now.bits += bits;
        return bits;
    }

    int setBudget(int bits) {
        argument(bits >= 4 && bits <= 300);
        record();
        int previous = now.budget;
        now.budget = bits;
        return previous;
    }

    int setKeyDistance(int pictures) {
        argument(pictures >= 1 && pictures <= 20);
        record();
        int previous = now.keyDistance;
        now.keyDistance = pictures;
        return previous;
    }

    int drawnAt(int pixel) {
        index(pixel, 64);
        return now.drawn[pixel / 8][pixel % 8];
    }

    int sentAt(int pixel) {
        index(pixel, 64);
        return now.sent[pixel / 8][pixel % 8];
    }

    int receivedAt(int pixel) {
        index(pixel, 64);
        return now.received[pixel / 8][pixel % 8];
    }

    int error() {
        int sum = 0;
        for (int pixel = 0; pixel < 64; pixel++) {
            sum += (drawnAt(pixel) - sentAt(pixel)) * (drawnAt(pixel) - sentAt(pixel));
        }
        return sum;
    }

    int drift() {
        int sum = 0;
        for (int pixel = 0; pixel < 64; pixel++) {
            sum += Math.max(sentAt(pixel), receivedAt(pixel)) - Math.min(sentAt(pixel), receivedAt(pixel));
        }
        return sum;
    }

    /** Drawn values less their predictions. */
    private static int[] differences(State state, int block, int move) {
        int[] differences = new int[16];
        for (int row = 0; row < 4; row++) {
            for (int column = 0; column < 4; column++) {
                int r = block / 2 * 4 + row;
                int c = block % 2 * 4 + column;
                differences[4 * row + column] = state.drawn[r][c]
                        - at(state.sent, r + (move / 5 - 2), c + (move % 5 - 2));
            }
        }
        return differences;
    }

    private static int distance(State state, int block, int move) {
        int sum = 0;
        for (int difference : differences(state, block, move)) {
            sum += Math.abs(difference);
        }
        return sum;
    }

    int distance(int block, int move) {
        index(block, 4);
        index(move, 25);
        return distance(now, block, move);
    }

    private static int best(State state, int block) {
        int best = 0;
        for (int move = 1; move < 25; move++) {
            if (rank(state, block, move) < rank(state, block, best)) {
                best = move;
            }
        }
        return best;
    }

    private static int rank(State state, int block, int move) {
        int steps = Math.abs(move / 5 - 2) + Math.abs(move % 5 - 2);
        return distance(state, block, move) * 1000 + steps * 100 + move;
    }

    int bestMove(int block) {
        index(block, 4);
        return best(now, block);
    }

    int equalMoves(int block) {
        index(block, 4);
        int count = 0;
        for (int move = 0; move < 25; move++) {
            count += distance(now, block, move) == distance(now, block, best(now, block)) ? 1 : 0;
        }
        return count;
    }

    boolean isKeyNext() {
        return now.pictures % now.keyDistance == 0;
    }

    private static String written(State state, int block, int q) {
        StringBuilder bits = new StringBuilder("mmmmmm");
        for (int difference : differences(state, block, best(state, block))) {
            String n = Integer.toBinaryString(Math.abs(difference / q) + 1);
            bits.append("0".repeat(n.length() - 1)).append(n).append(difference / q == 0 ? "" : "s");
        }
        return bits.toString();
    }

    private static int kind(State state, int block, int q) {
        String bits = written(state, block, q);
        if (best(state, block) == 12 && bits.equals("mmmmmm" + "1".repeat(16))) {
            return 1;
        }
        return bits.length() <= 66 ? 2 : 0;
    }

    private static int bits(State state, int block, int q) {
        int kind = kind(state, block, q);
        return kind == 1 ? 1 : kind == 0 ? 66 : written(state, block, q).length();
    }

    int kindWith(int block, int q) {
        index(block, 4);
        argument(q >= 1 && q <= 8);
        return kind(now, block, q);
    }

    int bitsWith(int block, int q) {
        index(block, 4);
        argument(q >= 1 && q <= 8);
        return bits(now, block, q);
    }

    private int allBits(int q) {
        return bits(now, 0, q) + bits(now, 1, q) + bits(now, 2, q) + bits(now, 3, q);
    }

    int coarsenessNext() {
        if (isKeyNext()) {
            return -1;
        }
        int q = 1;
        while (q < 8 && allBits(q) > now.budget) {
            q++;
        }
        return q;
    }

    int bitsNext() {
        return isKeyNext() ? 4 * 66 : allBits(coarsenessNext());
    }

    int pictureCount() {
        return now.pictures;
    }

    int lostCount() {
        return now.lost;
    }

    int bitCount() {
        return now.bits;
    }

    int lastKind(int block) {
        index(block, 4);
        return now.kinds[block];
    }

    int lastMove(int block) {
        index(block, 4);
        return now.moves[block];
    }

    int appendText(long characters) {
        StringBuilder signs = new StringBuilder();
        boolean ended = false;
        for (int shift = 0; shift < 64; shift += 8) {
            int code = (int) (characters >>> shift & 255);
            argument(code == 0 || !ended && code >= 33 && code <= 126);
            ended = ended || code == 0;
            signs.append(ended ? "" : String.valueOf((char) code));
        }
        argument(signs.length() > 0);
        state(text.length() + signs.length() <= 80);
        text += signs.reverse();
        return text.length();
    }

    int clearText() {
        int length = text.length();
        text = "";
        return length;
    }

    int textLength() {
        return text.length();
    }

    int textError() {
        if (TEXT.matcher(text).matches()) {
            return -1;
        }
        int end = 0;
        while (end < text.length() && canGoOn(text.substring(0, end + 1))) {
            end++;
        }
        return end;
    }

    private static boolean canGoOn(String start) {
        Matcher matcher = TEXT.matcher(start);
        return matcher.matches() || matcher.hitEnd();
    }

    int runText() {
        state(textError() == -1);
        record();
        State before = recorded.removeLast();
        Deque<State> history = new ArrayDeque<>(recorded);
        int executed = 0;
        for (String command : text.split(";")) {
            try {
                execute(command);
                executed++;
            } catch (RuntimeException e) {
                break;
            }
        }
        recorded.clear();
        recorded.addAll(history);
        recorded.addLast(before);
        text = "";
        return executed;
    }

    private void execute(String command) {
        switch (command) {
            case "u" -> scroll(1, 0);
            case "d" -> scroll(-1, 0);
            case "l" -> scroll(0, 1);
            case "r" -> scroll(0, -1);
            case "s" -> send(false);
            case "x" -> send(true);
            default -> {
                String[] parts = command.substring(1).split("=");
                draw(Integer.parseInt(parts[0]), Integer.parseInt(parts[1]));
            }
        }
    }

    int undo() {
        state(!recorded.isEmpty());
        now = recorded.removeLast();
        return recorded.size();
    }

    int undoCount() {
        return recorded.size();
    }

    int saveState(int slot) {
        index(slot, 2);
        slots[slot] = now.copy();
        return now.pictures;
    }

    int loadState(int slot) {
        index(slot, 2);
        state(slots[slot] != null);
        record();
        now = slots[slot].copy();
        return now.pictures;
    }
}
