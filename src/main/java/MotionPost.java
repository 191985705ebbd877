/** A sender and a receiver of small moving pictures. */
public final class MotionPost {
    public static final int NONE = -1;
    public static final int RAW = 0, STILL = 1, MOVED = 2;

    private static final int SIDE = 8;
    private static final int PIXELS = 64;
    private static final int GREATEST_VALUE = 15;
    private static final int BLOCKS = 4;
    private static final int BLOCK_SIDE = 4;
    private static final int BLOCK_PIXELS = 16;
    private static final int LONGEST_STEP = 2;
    private static final int STEPS = 5;
    private static final int MOVES = 25;
    private static final int NO_MOVE = 12;
    private static final int MORE_THAN_ANY_DISTANCE = BLOCK_PIXELS * GREATEST_VALUE + 1;
    private static final int COARSEST = 8;
    private static final int STILL_BITS = 1;
    private static final int MOVED_HEAD_BITS = 6;
    private static final int RAW_HEAD_BITS = 2;
    private static final int RAW_VALUE_BITS = 4;
    private static final int RAW_BITS = 66;
    private static final int LONGEST_LEVEL_BITS = 10;
    private static final int LEAST_BUDGET = 4, FIRST_BUDGET = 120, GREATEST_BUDGET = 300;
    private static final int FIRST_KEY_DISTANCE = 8, GREATEST_KEY_DISTANCE = 20;
    private static final int MOST_PICTURES = 999;
    private static final int MOST_SIGNS = 80;
    private static final int SIGNS_AT_ONCE = 8;
    private static final int FIRST_SIGN = 33, LAST_SIGN = 126;
    private static final int MOST_RECORDED = 6;
    private static final int SLOTS = 2;

    private final State now = new State();
    private final Plan plan = new Plan();
    private final BitRow bitRow = new BitRow();
    // A picture that changes is taken from a copy of what it was; kept, so that no call makes objects.
    private final Picture before = new Picture();
    private final CommandText text = new CommandText();
    private final History history = new History();
    private final Slot firstSlot = new Slot();
    private final Slot secondSlot = new Slot();

    public MotionPost() {
    }

    // ---- changes

    public int draw(int pixel, int value) throws IndexOutOfBoundsException, IllegalArgumentException {
        requirePixel(pixel);
        requireWithin(value, 0, GREATEST_VALUE);
        history.record(now);
        return now.drawn.put(pixel, value);
    }

    public int fill(int pixel, int height, int width, int value)
            throws IndexOutOfBoundsException, IllegalArgumentException {
        requirePixel(pixel);
        requireWithin(height, 1, SIDE);
        requireWithin(width, 1, SIDE);
        requireWithin(value, 0, GREATEST_VALUE);
        history.record(now);
        return now.drawn.putRectangle(pixel, height, width, value);
    }

    public int scroll(int down, int right) throws IllegalArgumentException {
        requireWithin(down, -LONGEST_STEP, LONGEST_STEP);
        requireWithin(right, -LONGEST_STEP, LONGEST_STEP);
        history.record(now);
        return scrollDrawn(down, right);
    }

    public int send(boolean lost) throws IllegalStateException {
        if (!maySend()) {
            throw new IllegalStateException("no more pictures can be sent");
        }
        history.record(now);
        return sendDrawn(lost);
    }

    public int setBudget(int bits) throws IllegalArgumentException {
        requireWithin(bits, LEAST_BUDGET, GREATEST_BUDGET);
        history.record(now);
        int previous = now.budget;
        now.budget = bits;
        return previous;
    }

    public int setKeyDistance(int pictures) throws IllegalArgumentException {
        requireWithin(pictures, 1, GREATEST_KEY_DISTANCE);
        history.record(now);
        int previous = now.keyDistance;
        now.keyDistance = pictures;
        return previous;
    }

    // ---- pictures

    public int drawnAt(int pixel) throws IndexOutOfBoundsException {
        requirePixel(pixel);
        return now.drawn.valueAt(pixel);
    }

    public int sentAt(int pixel) throws IndexOutOfBoundsException {
        requirePixel(pixel);
        return now.sent.valueAt(pixel);
    }

    public int receivedAt(int pixel) throws IndexOutOfBoundsException {
        requirePixel(pixel);
        return now.received.valueAt(pixel);
    }

    public int error() {
        int sum = 0;
        for (int pixel = 0; pixel < PIXELS; pixel++) {
            int difference = now.drawn.valueAt(pixel) - now.sent.valueAt(pixel);
            sum += difference * difference;
        }
        return sum;
    }

    public int drift() {
        int sum = 0;
        for (int pixel = 0; pixel < PIXELS; pixel++) {
            sum += Math.abs(now.sent.valueAt(pixel) - now.received.valueAt(pixel));
        }
        return sum;
    }

    // ---- moves

    public int distance(int block, int move) throws IndexOutOfBoundsException {
        requireBlock(block);
        if (move < 0 || move >= MOVES) {
            throw new IndexOutOfBoundsException("no such move");
        }
        return Moves.distanceBy(now, block, move);
    }

    public int bestMove(int block) throws IndexOutOfBoundsException {
        requireBlock(block);
        return Moves.bestByLooking(now, block);
    }

    public int bestMoveByStopping(int block) throws IndexOutOfBoundsException {
        requireBlock(block);
        return Moves.bestByStopping(now, block);
    }

    public int equalMoves(int block) throws IndexOutOfBoundsException {
        requireBlock(block);
        return Moves.countBest(now, block);
    }

    // ---- what would be sent

    public boolean isKeyNext() {
        return now.isKeyDue();
    }

    public int kindWith(int block, int coarseness) throws IndexOutOfBoundsException, IllegalArgumentException {
        requireBlock(block);
        requireWithin(coarseness, 1, COARSEST);
        plan.foreseeBlock(now, block, Moves.bestByLooking(now, block));
        plan.weighBlock(block, coarseness);
        return plan.kindOf(block);
    }

    public int bitsWith(int block, int coarseness) throws IndexOutOfBoundsException, IllegalArgumentException {
        requireBlock(block);
        requireWithin(coarseness, 1, COARSEST);
        plan.foreseeBlock(now, block, Moves.bestByLooking(now, block));
        return plan.weighBlock(block, coarseness);
    }

    public int bitsByWriting(int block, int coarseness) throws IndexOutOfBoundsException, IllegalArgumentException {
        requireBlock(block);
        requireWithin(coarseness, 1, COARSEST);
        plan.foreseeBlock(now, block, Moves.bestByStopping(now, block));
        return bitRow.writeBlock(plan, now.drawn, block, coarseness);
    }

    public int coarsenessNext() {
        plan.foreseePicture(now);
        return plan.coarseness;
    }

    public int bitsNext() {
        plan.foreseePicture(now);
        return plan.bits;
    }

    // ---- what was sent

    public int pictureCount() {
        return now.pictures;
    }

    public int lostCount() {
        return now.lostPictures;
    }

    public int bitCount() {
        return now.sentBits;
    }

    public int lastKind(int block) throws IndexOutOfBoundsException {
        requireBlock(block);
        return now.pictures == 0 ? NONE : now.kinds[block];
    }

    public int lastMove(int block) throws IndexOutOfBoundsException {
        requireBlock(block);
        return now.pictures == 0 || now.kinds[block] == RAW ? NONE : now.moves[block];
    }

    // ---- the text

    public int appendText(long characters) throws IllegalArgumentException, IllegalStateException {
        int count = CommandText.countSigns(characters);
        if (count == 0) {
            throw new IllegalArgumentException("these are no characters");
        }
        if (text.length + count > MOST_SIGNS) {
            throw new IllegalStateException("the text would be too long");
        }
        text.add(characters, count);
        return text.length;
    }

    public int clearText() {
        int previous = text.length;
        text.length = 0;
        return previous;
    }

    public int textLength() {
        return text.length;
    }

    public int textError() {
        return text.firstError();
    }

    public int runText() throws IllegalStateException {
        if (text.firstError() != NONE) {
            throw new IllegalStateException("the text has an error");
        }
        history.record(now);
        int executed = 0;
        boolean failed = false;
        for (int i = 0; i < text.length && !failed; i++) {
            if (text.startsCommand(i)) {
                failed = !execute(i);
                executed += failed ? 0 : 1;
            }
        }
        text.length = 0;
        return executed;
    }

    // ---- undo, saved states

    public int undo() throws IllegalStateException {
        if (history.count == 0) {
            throw new IllegalStateException("no state is recorded");
        }
        history.takeBack(now);
        return history.count;
    }

    public int undoCount() {
        return history.count;
    }

    public int saveState(int slot) throws IndexOutOfBoundsException {
        requireSlot(slot);
        Slot place = slot == 0 ? firstSlot : secondSlot;
        place.state.copyFrom(now);
        place.isSaved = true;
        return now.pictures;
    }

    public int loadState(int slot) throws IndexOutOfBoundsException, IllegalStateException {
        requireSlot(slot);
        Slot place = slot == 0 ? firstSlot : secondSlot;
        if (!place.isSaved) {
            throw new IllegalStateException("nothing was saved in this slot");
        }
        history.record(now);
        now.copyFrom(place.state);
        return now.pictures;
    }

    // ---- what may be asked for

    private static void requirePixel(int pixel) {
        if (pixel < 0 || pixel >= PIXELS) {
            throw new IndexOutOfBoundsException("no such pixel");
        }
    }

    private static void requireBlock(int block) {
        if (block < 0 || block >= BLOCKS) {
            throw new IndexOutOfBoundsException("no such block");
        }
    }

    private static void requireSlot(int slot) {
        if (slot < 0 || slot >= SLOTS) {
            throw new IndexOutOfBoundsException("no such slot");
        }
    }

    private static void requireWithin(int number, int least, int greatest) {
        if (number < least || number > greatest) {
            throw new IllegalArgumentException("out of range");
        }
    }

    private boolean maySend() {
        return now.pictures < MOST_PICTURES;
    }

    // ---- changes that record no state, for the calls and for the commands of a text

    private int scrollDrawn(int down, int right) {
        before.copyFrom(now.drawn);
        return now.drawn.takeMoved(before, down, right);
    }

    private int sendDrawn(boolean lost) {
        plan.foreseePicture(now);
        if (lost) {
            now.lostPictures++;
        } else {
            receivePicture();
        }
        for (int block = 0; block < BLOCKS; block++) {
            sendBlock(block);
            now.kinds[block] = plan.kindOf(block);
            now.moves[block] = plan.moveOf(block);
        }
        now.pictures++;
        now.sentBits += plan.bits;
        return plan.bits;
    }

    private void sendBlock(int block) {
        int kind = plan.kindOf(block);
        for (int i = 0; i < BLOCK_PIXELS; i++) {
            int pixel = pixelIn(block, i);
            now.sent.put(pixel, kind == RAW
                    ? now.drawn.valueAt(pixel)
                    : plan.predicted.valueAt(pixel) + plan.additionAt(pixel));
        }
    }

    private void receivePicture() {
        before.copyFrom(now.received);
        for (int block = 0; block < BLOCKS; block++) {
            receiveBlock(block);
        }
    }

    private void receiveBlock(int block) {
        int kind = plan.kindOf(block);
        int move = plan.moveOf(block);
        for (int i = 0; i < BLOCK_PIXELS; i++) {
            int pixel = pixelIn(block, i);
            if (kind == RAW) {
                now.received.put(pixel, now.drawn.valueAt(pixel));
            } else {
                int value = before.movedValueAt(pixel, downOf(move), rightOf(move)) + plan.additionAt(pixel);
                now.received.put(pixel, Math.max(0, Math.min(value, GREATEST_VALUE)));
            }
        }
    }

    /** Tells whether the command that starts there could be executed. */
    private boolean execute(int start) {
        char sign = text.signAt(start);
        switch (sign) {
            case 'p':
                return drawByCommand(start);
            case 'u':
                scrollDrawn(1, 0);
                return true;
            case 'd':
                scrollDrawn(-1, 0);
                return true;
            case 'l':
                scrollDrawn(0, 1);
                return true;
            case 'r':
                scrollDrawn(0, -1);
                return true;
            default:
                if (!maySend()) {
                    return false;
                }
                sendDrawn(sign == 'x');
                return true;
        }
    }

    private boolean drawByCommand(int start) {
        int pixel = text.numberFrom(start + 1);
        int value = text.numberFrom(text.afterNumber(start + 1) + 1);
        if (pixel >= PIXELS || value > GREATEST_VALUE) {
            return false;
        }
        now.drawn.put(pixel, value);
        return true;
    }

    // ---- places and moves by their numbers

    private static int pixelIn(int block, int i) {
        int row = BLOCK_SIDE * (block / 2) + i / BLOCK_SIDE;
        int column = BLOCK_SIDE * (block % 2) + i % BLOCK_SIDE;
        return SIDE * row + column;
    }

    private static int downOf(int move) {
        return move / STEPS - LONGEST_STEP;
    }

    private static int rightOf(int move) {
        return move % STEPS - LONGEST_STEP;
    }

    private static final class Picture {
        private final int[] values = new int[PIXELS];

        private int valueAt(int pixel) {
            return pixel < 0 || pixel >= PIXELS ? 0 : values[pixel];
        }

        /** The value so many rows further down and columns further to the right, or that of the edge. */
        private int movedValueAt(int pixel, int down, int right) {
            int row = pixel / SIDE + down;
            int column = pixel % SIDE + right;
            row = row < 0 ? 0 : row >= SIDE ? SIDE - 1 : row;
            column = column < 0 ? 0 : column >= SIDE ? SIDE - 1 : column;
            return values[SIDE * row + column];
        }

        /** Returns the previous value. */
        private int put(int pixel, int value) {
            if (pixel < 0 || pixel >= PIXELS) {
                return value;
            }
            int previous = values[pixel];
            values[pixel] = value;
            return previous;
        }

        /** Returns how many pixels get another value. */
        private int putRectangle(int pixel, int height, int width, int value) {
            int top = pixel / SIDE;
            int left = pixel % SIDE;
            int changed = 0;
            for (int row = top; row < top + height && row < SIDE; row++) {
                for (int column = left; column < left + width && column < SIDE; column++) {
                    changed += put(SIDE * row + column, value) == value ? 0 : 1;
                }
            }
            return changed;
        }

        /** Returns how many pixels get another value. The other picture must not be this one. */
        private int takeMoved(Picture other, int down, int right) {
            int changed = 0;
            for (int pixel = 0; pixel < PIXELS; pixel++) {
                int value = other.movedValueAt(pixel, down, right);
                changed += put(pixel, value) == value ? 0 : 1;
            }
            return changed;
        }

        private void copyFrom(Picture other) {
            System.arraycopy(other.values, 0, values, 0, PIXELS);
        }
    }

    /** All that a change can change and that is therefore recorded and saved. */
    private static final class State {
        private final Picture drawn = new Picture();
        private final Picture sent = new Picture();
        private final Picture received = new Picture();
        private final int[] kinds = new int[BLOCKS];
        private final int[] moves = new int[BLOCKS];
        private int budget = FIRST_BUDGET;
        private int keyDistance = FIRST_KEY_DISTANCE;
        private int pictures = 0;
        private int lostPictures = 0;
        private int sentBits = 0;

        private boolean isKeyDue() {
            return keyDistance > 0 && pictures % keyDistance == 0;
        }

        private void copyFrom(State other) {
            drawn.copyFrom(other.drawn);
            sent.copyFrom(other.sent);
            received.copyFrom(other.received);
            System.arraycopy(other.kinds, 0, kinds, 0, BLOCKS);
            System.arraycopy(other.moves, 0, moves, 0, BLOCKS);
            budget = other.budget;
            keyDistance = other.keyDistance;
            pictures = other.pictures;
            lostPictures = other.lostPictures;
            sentBits = other.sentBits;
        }
    }

    /** The two ways of finding the best move of a block. */
    private static final class Moves {
        /** By the sum of the steps, then by number: the first one with the least distance is the best. */
        private static final int[] SHORT_FIRST = {
            12,
            7, 11, 13, 17,
            2, 6, 8, 10, 14, 16, 18, 22,
            1, 3, 5, 9, 15, 19, 21, 23,
            0, 4, 20, 24
        };

        private static int distanceBy(State state, int block, int move) {
            int down = downOf(move);
            int right = rightOf(move);
            int sum = 0;
            for (int i = 0; i < BLOCK_PIXELS; i++) {
                int pixel = pixelIn(block, i);
                sum += Math.abs(state.drawn.valueAt(pixel) - state.sent.movedValueAt(pixel, down, right));
            }
            return sum;
        }

        private static int bestByLooking(State state, int block) {
            int best = 0;
            int least = distanceBy(state, block, 0);
            for (int move = 1; move < MOVES; move++) {
                int sum = distanceBy(state, block, move);
                if (sum < least || sum == least && lengthOf(move) < lengthOf(best)) {
                    best = move;
                    least = sum;
                }
            }
            return best;
        }

        private static int lengthOf(int move) {
            return Math.abs(downOf(move)) + Math.abs(rightOf(move));
        }

        private static int bestByStopping(State state, int block) {
            int best = NO_MOVE;
            int least = MORE_THAN_ANY_DISTANCE;
            for (int move : SHORT_FIRST) {
                int sum = distanceUpTo(least, state, block, move);
                if (sum < least) {
                    best = move;
                    least = sum;
                }
            }
            return best;
        }

        /** The distance, or some sum that is not less than the limit, if the distance is not less. */
        private static int distanceUpTo(int limit, State state, int block, int move) {
            int sum = 0;
            for (int i = 0; i < BLOCK_PIXELS && sum < limit; i++) {
                int pixel = pixelIn(block, i);
                int prediction = state.sent.movedValueAt(pixel, downOf(move), rightOf(move));
                sum += Math.abs(state.drawn.valueAt(pixel) - prediction);
            }
            return sum;
        }

        private static int countBest(State state, int block) {
            int count = 0;
            int least = MORE_THAN_ANY_DISTANCE;
            for (int move = 0; move < MOVES; move++) {
                int sum = distanceBy(state, block, move);
                if (sum < least) {
                    least = sum;
                    count = 1;
                } else if (sum == least) {
                    count++;
                }
            }
            return count;
        }
    }

    /** How blocks would be sent: foreseen first, then weighed with one coarseness or several. */
    private static final class Plan {
        private final int[] moves = new int[BLOCKS];
        private final int[] kinds = new int[BLOCKS];
        private final Picture predicted = new Picture();
        private final int[] differences = new int[PIXELS];
        private int coarseness = NONE;
        private int bits = 0;

        private int moveOf(int block) {
            return block < 0 || block >= BLOCKS ? NO_MOVE : moves[block];
        }

        private int kindOf(int block) {
            return block < 0 || block >= BLOCKS ? RAW : kinds[block];
        }

        private void foreseePicture(State state) {
            if (state.isKeyDue()) {
                foreseeKey();
                return;
            }
            for (int block = 0; block < BLOCKS; block++) {
                foreseeBlock(state, block, Moves.bestByLooking(state, block));
            }
            weighPicture(1);
            for (int q = 2; q <= COARSEST && bits > state.budget; q++) {
                weighPicture(q);
            }
        }

        private void foreseeKey() {
            for (int block = 0; block < BLOCKS; block++) {
                kinds[block] = RAW;
            }
            coarseness = NONE;
            bits = BLOCKS * RAW_BITS;
        }

        private void foreseeBlock(State state, int block, int move) {
            if (block < 0 || block >= BLOCKS) {
                return;
            }
            moves[block] = move;
            for (int i = 0; i < BLOCK_PIXELS; i++) {
                int pixel = pixelIn(block, i);
                int prediction = state.sent.movedValueAt(pixel, downOf(move), rightOf(move));
                predicted.put(pixel, prediction);
                differences[pixel] = state.drawn.valueAt(pixel) - prediction;
            }
        }

        private void weighPicture(int q) {
            coarseness = q;
            bits = 0;
            for (int block = 0; block < BLOCKS; block++) {
                bits += weighBlock(block, q);
            }
        }

        /** Decides the kind of a block that is foreseen, and returns its bits. */
        private int weighBlock(int block, int q) {
            if (block < 0 || block >= BLOCKS) {
                return 0;
            }
            int levelsBits = 0;
            for (int i = 0; i < BLOCK_PIXELS; i++) {
                levelsBits += bitsOfLevel(levelAt(pixelIn(block, i), q));
            }
            // Only a level of 0 takes one single bit.
            if (moves[block] == NO_MOVE && levelsBits == BLOCK_PIXELS) {
                kinds[block] = STILL;
                return STILL_BITS;
            }
            if (MOVED_HEAD_BITS + levelsBits <= RAW_BITS) {
                kinds[block] = MOVED;
                return MOVED_HEAD_BITS + levelsBits;
            }
            kinds[block] = RAW;
            return RAW_BITS;
        }

        private static int bitsOfLevel(int level) {
            int sum = level == 0 ? 1 : 2;
            for (int n = level < 0 ? 1 - level : 1 + level; n > 1; n /= 2) {
                sum += 2;
            }
            return sum;
        }

        private int levelAt(int pixel, int q) {
            return pixel < 0 || pixel >= PIXELS || q < 1 ? 0 : differences[pixel] / q;
        }

        /** What is added to a prediction with the coarseness that the picture was weighed with last. */
        private int additionAt(int pixel) {
            return coarseness * levelAt(pixel, coarseness);
        }
    }

    /** The bits of one block, written one by one. */
    private static final class BitRow {
        private final boolean[] bits = new boolean[MOVED_HEAD_BITS + BLOCK_PIXELS * LONGEST_LEVEL_BITS];
        private int length = 0;

        /** Returns how many bits it has written. */
        private int writeBlock(Plan plan, Picture drawn, int block, int q) {
            boolean isStill = plan.moveOf(block) == NO_MOVE;
            length = 0;
            writeNumber(plan.moveOf(block), MOVED_HEAD_BITS);
            for (int i = 0; i < BLOCK_PIXELS; i++) {
                int level = plan.levelAt(pixelIn(block, i), q);
                writeLevel(level);
                isStill = isStill && level == 0;
            }
            if (isStill) {
                length = 0;
                writeNumber(STILL, STILL_BITS);
            } else if (length > RAW_BITS) {
                length = 0;
                writeRaw(drawn, block);
            }
            return length;
        }

        private void writeRaw(Picture drawn, int block) {
            writeNumber(RAW, RAW_HEAD_BITS);
            for (int i = 0; i < BLOCK_PIXELS; i++) {
                writeNumber(drawn.valueAt(pixelIn(block, i)), RAW_VALUE_BITS);
            }
        }

        private void writeLevel(int level) {
            int n = Math.abs(level) + 1;
            int halvings = 0;
            for (int rest = n; rest > 1; rest /= 2) {
                halvings++;
            }
            writeNumber(0, halvings);
            writeNumber(n, halvings + 1);
            if (level != 0) {
                writeBit(level < 0);
            }
        }

        private void writeNumber(int number, int digits) {
            for (int digit = digits - 1; digit >= 0; digit--) {
                writeBit((number >> digit & 1) == 1);
            }
        }

        private void writeBit(boolean bit) {
            if (length < bits.length) {
                bits[length] = bit;
                length++;
            }
        }
    }

    private static final class CommandText {
        // What is due next, told by the signs so far.
        private static final int COMMAND = 0, PIXEL = 1, PIXEL_REST = 2, EQUALS = 3;
        private static final int VALUE = 4, VALUE_REST = 5, END = 6;

        private final char[] signs = new char[MOST_SIGNS];
        private int length = 0;

        /** How many characters a number stands for; 0 if it stands for none or breaks a rule. */
        private static int countSigns(long characters) {
            long rest = characters;
            int count = 0;
            while (count < SIGNS_AT_ONCE && (rest & 255) != 0) {
                if ((rest & 255) < FIRST_SIGN || (rest & 255) > LAST_SIGN) {
                    return 0;
                }
                rest >>>= 8;
                count++;
            }
            return rest == 0 ? count : 0;
        }

        private void add(long characters, int count) {
            for (int i = count - 1; i >= 0; i--) {
                if (length < MOST_SIGNS) {
                    signs[length] = (char) (characters >>> 8 * i & 255);
                    length++;
                }
            }
        }

        private char signAt(int i) {
            return i < 0 || i >= length || i >= MOST_SIGNS ? ';' : signs[i];
        }

        private int firstError() {
            int due = COMMAND;
            for (int i = 0; i < length; i++) {
                due = dueAfter(due, signAt(i));
                if (due == NONE) {
                    return i;
                }
            }
            return due == VALUE_REST || due == END ? NONE : length;
        }

        /** What is due after a sign; NONE if the sign cannot stand there. */
        private static int dueAfter(int due, char sign) {
            switch (due) {
                case COMMAND:
                    return sign == 'p' ? PIXEL : isShortCommand(sign) ? END : NONE;
                case PIXEL:
                    return sign == '0' ? EQUALS : isDigit(sign) ? PIXEL_REST : NONE;
                case PIXEL_REST:
                    return isDigit(sign) ? EQUALS : sign == '=' ? VALUE : NONE;
                case EQUALS:
                    return sign == '=' ? VALUE : NONE;
                case VALUE:
                    return sign == '0' ? END : isDigit(sign) ? VALUE_REST : NONE;
                case VALUE_REST:
                    return isDigit(sign) ? END : sign == ';' ? COMMAND : NONE;
                default:
                    return sign == ';' ? COMMAND : NONE;
            }
        }

        private static boolean isShortCommand(char sign) {
            return sign == 'u' || sign == 'd' || sign == 'l' || sign == 'r' || sign == 's' || sign == 'x';
        }

        private static boolean isDigit(char sign) {
            return sign >= '0' && sign <= '9';
        }

        private boolean startsCommand(int i) {
            return i == 0 || signAt(i - 1) == ';';
        }

        private int afterNumber(int start) {
            int i = start;
            while (i < length && isDigit(signAt(i))) {
                i++;
            }
            return i;
        }

        private int numberFrom(int start) {
            int end = afterNumber(start);
            int number = 0;
            for (int i = start; i < end; i++) {
                number = 10 * number + (signAt(i) - '0');
            }
            return number;
        }
    }

    /** The latest states before changes, in a ring, so that the oldest one makes room. */
    private static final class History {
        private final State[] states = new State[MOST_RECORDED];
        private int next = 0;
        private int count = 0;

        private History() {
            for (int i = 0; i < MOST_RECORDED; i++) {
                states[i] = new State();
            }
        }

        private State placeAt(int i) {
            return i < 0 || i >= MOST_RECORDED ? null : states[i];
        }

        private void record(State state) {
            State place = placeAt(next);
            if (place != null) {
                place.copyFrom(state);
            }
            next = (next + 1) % MOST_RECORDED;
            count = Math.min(count + 1, MOST_RECORDED);
        }

        private void takeBack(State state) {
            next = (next + MOST_RECORDED - 1) % MOST_RECORDED;
            count--;
            State place = placeAt(next);
            if (place != null) {
                state.copyFrom(place);
            }
        }
    }

    private static final class Slot {
        private final State state = new State();
        private boolean isSaved = false;
    }
}
