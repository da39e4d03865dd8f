/**
 * A command link's two ends: a sender that makes transmissions of code blocks, and a receiver that
 * finds them in a stream of bits, of which some are wrong, mends what has one wrong bit, and ends a
 * transmission with the first block that it can't mend.
 */
public final class CodeBlocks {
    /** Nothing there. */
    public static final int NONE = -1;

    private static final int OFF = 0;
    private static final int SEARCHES = 1;
    private static final int DECODES = 2;

    private static final int BEGAN = 0;
    private static final int ENDED = 1;
    private static final int BLOCKS = 2;
    private static final int MENDED_BLOCKS = 3;
    private static final int MENDED_STARTS = 4;
    private static final int COUNTS = 5;

    private static final int START = 0b1110101110010000;
    private static final int START_BITS = 16;
    private static final long START_MASK = 0xFFFFL;
    private static final int START_BYTES = 2;
    private static final int TAIL_BYTES = 8;
    private static final int[] TAIL = {197, 197, 197, 197, 197, 197, 197, 121};

    private static final int BLOCK_BITS = 64;
    private static final int BLOCK_BYTES = 8;
    private static final int DATA_BYTES = 7;
    private static final int CODE_BITS = 63;
    private static final int CHECK_BITS = 7;
    private static final int CHECK_MASK = 127;
    private static final int MOST_BLOCKS = 37;
    private static final int MOST_DATA = MOST_BLOCKS * DATA_BYTES;
    private static final int MOST_SENT = START_BYTES + MOST_BLOCKS * BLOCK_BYTES + TAIL_BYTES;

    /** x^7 + x^6 + x^2 + 1, and its highest power alone. */
    private static final int DIVISOR = 0b11000101;
    private static final int DIVISOR_TOP = 0b10000000;

    private static final int MOST_TAKEN = 64;
    private static final int BYTE_BITS = 8;
    private static final int BYTE_MASK = 255;
    private static final int FILL_BYTE = 85;

    private int state;
    private boolean mends;
    /** The newest bit is the lowest; only as many as {@link #came} says count. */
    private long bits;
    /** How many bits came since it began to search, or since the block began. */
    private int came;
    private int[] row;
    private int rowSize;
    private int[] received;
    private int receivedSize;
    private final int[] counts;

    private final int[] waiting;
    private int waitingSize;
    private final int[] sent;
    private int sentSize;

    public CodeBlocks() {
        state = OFF;
        row = new int[MOST_DATA];
        received = new int[MOST_DATA];
        counts = new int[COUNTS];
        waiting = new int[MOST_DATA];
        sent = new int[MOST_SENT];
    }

    public boolean turn(boolean on) {
        if (on == (state != OFF)) {
            return false;
        }
        if (on) {
            beginSearch();
        } else {
            state = OFF;
        }
        return true;
    }

    public void mending(boolean is) {
        mends = is;
    }

    public int take(int n, long w) {
        if (state == OFF || n < 1 || n > MOST_TAKEN) {
            return NONE;
        }
        int endedBefore = counts[ENDED];
        for (int place = n - 1; place >= 0; place--) {
            takeBit((w >>> place) & 1L);
        }
        return counts[ENDED] - endedBefore;
    }

    public int state() {
        return state;
    }

    public int count(int what) {
        return what >= 0 && what < counts.length ? counts[what] : NONE;
    }

    public int size() {
        return receivedSize;
    }

    public int byteAt(int k) {
        return k >= 0 && k < receivedSize && k < received.length ? received[k] : NONE;
    }

    public int put(int b) {
        if (waitingSize < 0 || waitingSize >= waiting.length) {
            return NONE;
        }
        waiting[waitingSize] = b & BYTE_MASK;
        waitingSize++;
        return waitingSize;
    }

    public int send() {
        if (waitingSize == 0) {
            return NONE;
        }
        fillLastBlock();
        sentSize = 0;
        sendBytes(START, START_BYTES);
        for (int from = 0; from < waitingSize; from += DATA_BYTES) {
            sendBytes(blockOf(waitingData(from)), BLOCK_BYTES);
        }
        for (int b : TAIL) {
            sendBytes(b, 1);
        }
        waitingSize = 0;
        return sentSize;
    }

    public int sent(int k) {
        return k >= 0 && k < sentSize && k < sent.length ? sent[k] : NONE;
    }

    // The receiver.

    private void beginSearch() {
        state = SEARCHES;
        came = 0;
    }

    private void takeBit(long bit) {
        bits = (bits << 1) | bit;
        came++;
        if (state == SEARCHES) {
            lookForStart();
        } else if (came == BLOCK_BITS) {
            came = 0;
            lookAtBlock();
        }
    }

    private void lookForStart() {
        // Bits from before the search must not help to make a START.
        if (came < START_BITS) {
            return;
        }
        int wrongBits = Integer.bitCount((int) (bits & START_MASK) ^ START);
        if (wrongBits == 0) {
            beginTransmission();
        } else if (wrongBits == 1 && mends) {
            counts[MENDED_STARTS]++;
            beginTransmission();
        }
    }

    private void beginTransmission() {
        counts[BEGAN]++;
        state = DECODES;
        came = 0;
        rowSize = 0;
    }

    private void lookAtBlock() {
        long code = (bits >>> 1) ^ CHECK_MASK;
        int remainder = remainderOf(code);
        int wrongPower = mends ? powerWithRemainder(remainder) : NONE;
        if (remainder == 0) {
            keepData(code);
        } else if (wrongPower != NONE) {
            counts[MENDED_BLOCKS]++;
            keepData(code ^ (1L << wrongPower));
        } else {
            endTransmission();
        }
    }

    private void keepData(long code) {
        counts[BLOCKS]++;
        long data = code >>> CHECK_BITS;
        for (int left = DATA_BYTES - 1; left >= 0 && rowSize >= 0 && rowSize < row.length; left--) {
            row[rowSize] = byteOf(data, left);
            rowSize++;
        }
        // All blocks before this one came to the row too, so it is full with the 37th.
        if (rowSize == MOST_DATA) {
            endTransmission();
        }
    }

    private void endTransmission() {
        counts[ENDED]++;
        if (rowSize > 0) {
            // The two rows change places, so that no new one is ever made.
            int[] old = received;
            received = row;
            receivedSize = rowSize;
            row = old;
        }
        beginSearch();
    }

    // The code.

    private static int remainderOf(long code) {
        int remainder = 0;
        for (int power = CODE_BITS - 1; power >= 0; power--) {
            remainder = reduced((remainder << 1) | (int) ((code >>> power) & 1L));
        }
        return remainder;
    }

    /** The one power of x below 63 that leaves this remainder (no two leave the same); NONE if none does. */
    private static int powerWithRemainder(int remainder) {
        int candidate = 1;
        for (int power = 0; power < CODE_BITS; power++) {
            if (candidate == remainder) {
                return power;
            }
            candidate = reduced(candidate << 1);
        }
        return NONE;
    }

    private static int reduced(int polynomial) {
        return (polynomial & DIVISOR_TOP) == 0 ? polynomial : polynomial ^ DIVISOR;
    }

    private static long blockOf(long data) {
        long shifted = data << CHECK_BITS;
        return (shifted | (remainderOf(shifted) ^ CHECK_MASK)) << 1;
    }

    private static int byteOf(long word, int bytesBehind) {
        return (int) (word >>> (BYTE_BITS * bytesBehind)) & BYTE_MASK;
    }

    // The sender.

    private void fillLastBlock() {
        for (int n = 1; n < DATA_BYTES && waitingSize % DATA_BYTES != 0; n++) {
            put(FILL_BYTE);
        }
    }

    private long waitingData(int from) {
        long data = 0L;
        for (int at = from; at < from + DATA_BYTES && at >= 0 && at < waiting.length; at++) {
            data = (data << BYTE_BITS) | waiting[at];
        }
        return data;
    }

    private void sendBytes(long word, int bytes) {
        for (int left = bytes - 1; left >= 0 && sentSize >= 0 && sentSize < sent.length; left--) {
            sent[sentSize] = byteOf(word, left);
            sentSize++;
        }
    }
}
