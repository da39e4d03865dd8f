/** Objects in the states that tests begin with, and the blocks that they take. */
final class Links {
    /** Numbers that are no index, no length and no kind of count. */
    static final int[] FAR = {Integer.MIN_VALUE, Integer.MIN_VALUE + 1, -65536, -1000, -256, -64, -2, -1,
        1000, 1024, 65536, 1000000, Integer.MAX_VALUE - 1, Integer.MAX_VALUE};
    /** Seven bytes of 0 leave nothing, so the turned check bits are all 1. */
    static final String ZEROS = Bits.ofBytes(0, 0, 0, 0, 0, 0, 0, 254);
    /** The last data bit alone is x^7, which leaves x^6 + x^2 + 1. */
    static final String ONE = Bits.ofBytes(0, 0, 0, 0, 0, 0, 1, 116);
    static final String SEVEN = Bits.ofBytes(1, 2, 3, 4, 5, 6, 7, 112);

    private Links() {
    }

    /** Lets the bits come in calls of 64 and a rest: how many transmissions ended. */
    static int feed(CodeBlocks x, String bits) {
        int ended = 0;
        for (int from = 0; from < bits.length(); from += 64) {
            String part = bits.substring(from, Math.min(bits.length(), from + 64));
            ended += x.take(part.length(), Bits.number(part));
        }
        return ended;
    }

    static CodeBlocks searching(boolean mending) {
        CodeBlocks x = new CodeBlocks();
        x.turn(true);
        x.mending(mending);
        return x;
    }

    static CodeBlocks decoding(boolean mending) {
        CodeBlocks x = searching(mending);
        feed(x, Bits.START);
        return x;
    }

    /** A sender to which bytes 100, 101, .. were put. */
    static CodeBlocks with(int bytes) {
        CodeBlocks x = new CodeBlocks();
        for (int i = 0; i < bytes; i++) {
            x.put(100 + i);
        }
        return x;
    }
}
