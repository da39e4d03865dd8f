/** Each promise of the document by its number: ordinary inputs, the edges it names, wrong inputs. */
public final class PromisesTest {
    private static final int NONE = CodeBlocks.NONE;
    private static final int[] FAR = Links.FAR;
    private static final String ZEROS = Links.ZEROS;
    private static final String ONE = Links.ONE;
    private static final String SEVEN = Links.SEVEN;

    private static final Checks CHECKS = new Checks();

    public static void main(String[] args) {
        newObject();
        turn();
        turnLosesTheRow();
        turnSearchesAnew();
        mendingOfStarts();
        mendingOfBlocks();
        mendingHoldsForWhatIsLookedAt();
        takeRefuses();
        takeInPieces();
        takeFindsStartAtAnyBit();
        takeEndsTransmissions();
        takeEndsWithBlock37();
        takeSearchesAnewBehindTheEnd();
        state();
        count();
        received();
        receivedStaysUntilTheNextEnd();
        put();
        send();
        sendFills();
        sent();
        objectsAreApart();
        sentIsReceived();
        CHECKS.end();
    }

    private static void due(String call, long got, long want) {
        CHECKS.due(call, got, want);
    }

    private static void due(String call, boolean got, boolean want) {
        CHECKS.due(call, got, want);
    }

    private static int feed(CodeBlocks x, String bits) {
        return Links.feed(x, bits);
    }

    private static CodeBlocks searching(boolean mending) {
        return Links.searching(mending);
    }

    private static CodeBlocks decoding(boolean mending) {
        return Links.decoding(mending);
    }

    // Promise 1

    private static void newObject() {
        CodeBlocks x = new CodeBlocks();
        due("new: state()", x.state(), 0);
        CHECKS.dueCounts("new", x, 0, 0, 0, 0, 0);
        CHECKS.dueReceived("new", x);
        due("new: sent(0)", x.sent(0), NONE);
        due("new: send()", x.send(), NONE);
        due("new: take(1, 1)", x.take(1, 1L), NONE);
        due("new: put(1)", x.put(1), 1);
        x = new CodeBlocks();
        x.turn(true);
        feed(x, Bits.flip(Bits.START, 0));
        due("new: no mending", x.state(), 1);
    }

    // Promise 2

    private static void turn() {
        CodeBlocks x = new CodeBlocks();
        due("turn(false), off", x.turn(false), false);
        due("turn(true), off", x.turn(true), true);
        due("turn(true): state()", x.state(), 1);
        due("turn(true), on", x.turn(true), false);
        due("turn(true) twice: state()", x.state(), 1);
        feed(x, Bits.START);
        due("turn(true), decoding", x.turn(true), false);
        due("turn(true), decoding: state()", x.state(), 2);
        due("turn(false), decoding", x.turn(false), true);
        due("turn(false): state()", x.state(), 0);
        due("turn(false) again", x.turn(false), false);
        due("turn(true) again", x.turn(true), true);
        due("turn(true) again: state()", x.state(), 1);
        due("turn(false), searching", x.turn(false), true);
    }

    private static void turnLosesTheRow() {
        CodeBlocks x = decoding(false);
        feed(x, SEVEN + Bits.TAIL + Bits.START + ONE + ONE);
        x.turn(false);
        CHECKS.dueReceived("off", x, 1, 2, 3, 4, 5, 6, 7);
        x.turn(true);
        due("on again: an empty one ends", feed(x, Bits.START + Bits.TAIL), 1);
        CHECKS.dueReceived("on again, after an empty one", x, 1, 2, 3, 4, 5, 6, 7);
        feed(x, Bits.START + ZEROS + Bits.TAIL);
        CHECKS.dueReceived("on again, after a full one", x, 0, 0, 0, 0, 0, 0, 0);
        CHECKS.dueCounts("on again", x, 4, 3, 4, 0, 0);
    }

    private static void turnSearchesAnew() {
        for (int cut = 1; cut < 16; cut++) {
            CodeBlocks x = searching(false);
            feed(x, Bits.START.substring(0, cut));
            due("turn(true) while it searches", x.turn(true), false);
            feed(x, Bits.START.substring(cut));
            due("a START round turn(true) that changes nothing", x.state(), 2);
            x = searching(false);
            feed(x, Bits.START.substring(0, cut));
            x.turn(false);
            x.turn(true);
            feed(x, Bits.START.substring(cut));
            due("a START of which " + cut + " bits came before it was off", x.state(), 1);
            feed(x, Bits.START);
            due("a whole START then", x.state(), 2);
        }
        CodeBlocks x = decoding(false);
        feed(x, SEVEN.substring(0, 30));
        x.turn(false);
        x.turn(true);
        feed(x, Bits.START + SEVEN);
        due("half a block before it was off is no part of the next", x.state(), 2);
        due("half a block before it was off: count(2)", x.count(2), 1);
    }

    // Promise 3

    private static void mendingOfStarts() {
        for (int i = 0; i < 16; i++) {
            CodeBlocks x = searching(true);
            feed(x, Bits.flip(Bits.START, i));
            due("START with bit " + i + " wrong, mending", x.state(), 2);
            CHECKS.dueCounts("START with bit " + i + " wrong", x, 1, 0, 0, 0, 1);
            x = searching(false);
            feed(x, Bits.flip(Bits.START, i));
            due("START with bit " + i + " wrong, no mending", x.state(), 1);
            CHECKS.dueCounts("START with bit " + i + " wrong, no mending", x, 0, 0, 0, 0, 0);
            for (int j = i + 1; j < 16; j++) {
                x = searching(true);
                feed(x, Bits.flip(Bits.START, i, j));
                due("START with bits " + i + " and " + j + " wrong", x.state(), 1);
            }
        }
        CodeBlocks x = searching(true);
        feed(x, Bits.START);
        CHECKS.dueCounts("a right START with mending", x, 1, 0, 0, 0, 0);
        x = searching(true);
        feed(x, Bits.START.substring(1));
        due("15 bits are never START", x.state(), 1);
    }

    private static void mendingOfBlocks() {
        for (int i = 0; i < 63; i++) {
            CodeBlocks x = decoding(true);
            due("block with bit " + i + " wrong, mending", feed(x, Bits.flip(SEVEN, i)), 0);
            CHECKS.dueCounts("block with bit " + i + " wrong", x, 1, 0, 1, 1, 0);
            feed(x, Bits.TAIL);
            CHECKS.dueReceived("block with bit " + i + " wrong", x, 1, 2, 3, 4, 5, 6, 7);
            x = decoding(false);
            due("block with bit " + i + " wrong, no mending", feed(x, Bits.flip(SEVEN, i)), 1);
            CHECKS.dueCounts("block with bit " + i + " wrong, no mending", x, 1, 1, 0, 0, 0);
            for (int j = i + 1; j < 63; j++) {
                x = decoding(true);
                due("block with bits " + i + " and " + j + " wrong", feed(x, Bits.flip(SEVEN, i, j)), 1);
                due("block with two wrong bits: size()", x.size(), 0);
            }
            x = decoding(true);
            due("block with bit " + i + " and the last wrong", feed(x, Bits.flip(SEVEN, i, 63)), 0);
        }
        for (int i = 0; i < 64; i++) {
            CodeBlocks x = decoding(true);
            due("TAIL with bit " + i + " wrong", feed(x, Bits.flip(Bits.TAIL, i)), 1);
        }
        for (boolean mending : new boolean[] {false, true}) {
            CodeBlocks x = decoding(mending);
            due("the last bit means nothing", feed(x, Bits.flip(SEVEN, 63)), 0);
            CHECKS.dueCounts("the last bit means nothing", x, 1, 0, 1, 0, 0);
        }
    }

    private static void mendingHoldsForWhatIsLookedAt() {
        CodeBlocks x = searching(false);
        String wrongStart = Bits.flip(Bits.START, 3);
        feed(x, wrongStart.substring(0, 15));
        x.mending(true);
        feed(x, wrongStart.substring(15));
        due("mending before START's last bit", x.state(), 2);
        String wrongBlock = Bits.flip(SEVEN, 5);
        feed(x, wrongBlock.substring(0, 63));
        x.mending(false);
        due("no mending before the block's last bit", feed(x, wrongBlock.substring(63)), 1);
        x = decoding(false);
        feed(x, wrongBlock.substring(0, 63));
        x.mending(true);
        due("mending before the block's last bit", feed(x, wrongBlock.substring(63)), 0);
        x.mending(false);
        feed(x, Bits.TAIL);
        CHECKS.dueReceived("what was mended stays", x, 1, 2, 3, 4, 5, 6, 7);
        x = searching(false);
        feed(x, wrongStart);
        x.mending(true);
        due("mending does not look again", x.state(), 1);
        x = searching(true);
        x.turn(false);
        x.turn(true);
        feed(x, wrongStart);
        due("mending outlives off", x.state(), 2);
    }

    // Promise 4

    private static void takeRefuses() {
        CodeBlocks x = new CodeBlocks();
        due("take(16, START), off", x.take(16, 60304L), NONE);
        x.turn(true);
        due("after what came while it was off", x.state(), 1);
        due("count(0)", x.count(0), 0);
        feed(x, Bits.START.substring(0, 8));
        for (int n : new int[] {0, 65, 66, 80, 128}) {
            due("take(" + n + ", 1)", x.take(n, 1L), NONE);
        }
        for (int n : FAR) {
            due("take(" + n + ", -1)", x.take(n, -1L), NONE);
        }
        feed(x, Bits.START.substring(8));
        due("none came of what was refused", x.state(), 2);
        due("take(0, ..), decoding", x.take(0, 0L), NONE);
        x.turn(false);
        due("take(64, ..), off again", x.take(64, 0L), NONE);
        due("take(0, ..), off again", x.take(0, 0L), NONE);
    }

    private static void takeInPieces() {
        String bits = "0110" + Bits.START + SEVEN + ONE + Bits.TAIL + "111";
        for (int length = 1; length <= 64; length++) {
            CodeBlocks x = searching(false);
            int ended = 0;
            for (int from = 0; from < bits.length(); from += length) {
                String part = bits.substring(from, Math.min(bits.length(), from + length));
                long above = part.length() == 64 ? 0L : -1L << part.length();
                ended += x.take(part.length(), above | Bits.number(part));
            }
            due("in pieces of " + length + ": ended", ended, 1);
            CHECKS.dueReceived("in pieces of " + length, x, 1, 2, 3, 4, 5, 6, 7, 0, 0, 0, 0, 0, 0, 1);
        }
    }

    private static void takeFindsStartAtAnyBit() {
        for (int before = 0; before < 70; before++) {
            CodeBlocks x = searching(false);
            feed(x, "1".repeat(before) + Bits.START + SEVEN + Bits.TAIL);
            CHECKS.dueReceived("START behind " + before + " bits of 1", x, 1, 2, 3, 4, 5, 6, 7);
        }
        CodeBlocks x = searching(false);
        feed(x, Bits.START.substring(0, 15) + Bits.START);
        due("START behind most of itself", x.state(), 2);
        x = decoding(false);
        feed(x, Bits.START);
        CHECKS.dueCounts("START is not looked for in blocks", x, 1, 0, 0, 0, 0);
    }

    private static void takeEndsTransmissions() {
        CodeBlocks x = decoding(false);
        due("take of a block", x.take(64, Bits.number(SEVEN)), 0);
        due("take of 63 bits of TAIL", x.take(63, Bits.number(Bits.TAIL) >>> 1), 0);
        due("63 bits are no block yet", x.state(), 2);
        due("take of TAIL's last bit", x.take(1, 1L), 1);
        due("behind the end", x.state(), 1);
        due("take of TAIL, searching", x.take(64, Bits.number(Bits.TAIL)), 0);
        String two = Bits.START + Bits.TAIL + Bits.START + SEVEN + Bits.TAIL;
        due("two transmissions in a row", feed(x, two), 2);
        x = searching(false);
        feed(x, Bits.START + Bits.TAIL.substring(0, 40));
        String rest = Bits.TAIL.substring(40) + Bits.START;
        due("one take ends one and begins another", x.take(rest.length(), Bits.number(rest)), 1);
        due("one take ends one and begins another: state()", x.state(), 2);
        due("one take ends one and begins another: count(0)", x.count(0), 2);
        x = decoding(true);
        due("TAIL is never mended", feed(x, Bits.TAIL), 1);
    }

    private static void takeEndsWithBlock37() {
        for (boolean mending : new boolean[] {false, true}) {
            CodeBlocks x = decoding(mending);
            due("36 blocks", feed(x, SEVEN.repeat(36)), 0);
            due("36 blocks: state()", x.state(), 2);
            due("the 37th block", feed(x, ONE), 1);
            due("the 37th block: state()", x.state(), 1);
            due("the 37th block: size()", x.size(), 259);
            due("the 37th block: byteAt(251)", x.byteAt(251), 7);
            due("the 37th block: byteAt(258)", x.byteAt(258), 1);
            due("the 37th block: byteAt(259)", x.byteAt(259), NONE);
            CHECKS.dueCounts("the 37th block", x, 1, 1, 37, 0, 0);
            due("TAIL behind it", feed(x, Bits.TAIL), 0);
            due("the next begins at none", feed(x, Bits.START + SEVEN.repeat(36)), 0);
            due("a 37th that can't be mended", feed(x, Bits.TAIL), 1);
            due("a 37th that can't be mended: size()", x.size(), 252);
            CHECKS.dueCounts("a 37th that can't be mended", x, 2, 2, 73, 0, 0);
        }
        CodeBlocks x = decoding(true);
        feed(x, SEVEN.repeat(36));
        due("a mended 37th", feed(x, Bits.flip(ONE, 55)), 1);
        due("a mended 37th: byteAt(258)", x.byteAt(258), 1);
        CHECKS.dueCounts("a mended 37th", x, 1, 1, 37, 1, 0);
    }

    private static void takeSearchesAnewBehindTheEnd() {
        for (int cut = 1; cut < 16; cut++) {
            // A last block that is not right, and whose end is the beginning of a START.
            String last = "0".repeat(64 - cut) + Bits.START.substring(0, cut);
            String wrong = Bits.right(last.substring(0, 63)) ? Bits.flip(last, 0) : last;
            CodeBlocks x = decoding(false);
            due("a last block with " + cut + " bits of START", feed(x, wrong), 1);
            feed(x, Bits.START.substring(cut));
            due("START half in the last block, cut " + cut, x.state(), 1);
            feed(x, Bits.START);
            due("START behind it", x.state(), 2);
        }
        CodeBlocks x = decoding(true);
        due("an end right behind START", feed(x, Bits.TAIL), 1);
        feed(x, Bits.START.substring(0, 15));
        due("15 bits behind an end", x.state(), 1);
        feed(x, "0");
        due("16 bits behind an end", x.state(), 2);
    }

    // Promise 5

    private static void state() {
        CodeBlocks x = new CodeBlocks();
        due("state(), off", x.state(), 0);
        x.turn(true);
        due("state(), searching", x.state(), 1);
        feed(x, Bits.START.substring(0, 15));
        due("state(), before START's last bit", x.state(), 1);
        feed(x, "0");
        due("state(), behind START", x.state(), 2);
        feed(x, SEVEN);
        due("state(), behind a block", x.state(), 2);
        feed(x, Bits.TAIL);
        due("state(), behind the end", x.state(), 1);
        x.turn(false);
        due("state(), off again", x.state(), 0);
    }

    // Promise 6

    private static void count() {
        CodeBlocks x = searching(true);
        feed(x, Bits.flip(Bits.START, 15) + SEVEN + Bits.flip(SEVEN, 0) + Bits.flip(SEVEN, 62) + Bits.TAIL);
        CHECKS.dueCounts("one", x, 1, 1, 3, 2, 1);
        feed(x, Bits.START + Bits.flip(SEVEN, 0, 1));
        CHECKS.dueCounts("two wrong bits", x, 2, 2, 3, 2, 1);
        feed(x, Bits.START + Bits.flip(SEVEN, 20));
        x.turn(false);
        CHECKS.dueCounts("off", x, 3, 2, 4, 3, 1);
        x.turn(true);
        feed(x, Bits.flip(Bits.START, 15));
        CHECKS.dueCounts("on again", x, 4, 2, 4, 3, 2);
        for (int what : new int[] {5, 6, 7, 8, 64}) {
            due("count(" + what + ")", x.count(what), NONE);
        }
        for (int what : FAR) {
            due("count(" + what + ")", x.count(what), NONE);
        }
    }

    // Promises 7 and 8

    private static void received() {
        CodeBlocks x = decoding(false);
        int[] bytes = {255, 128, 127, 0, 170, 85, 1};
        feed(x, Bits.block(bytes) + SEVEN + Bits.TAIL);
        CHECKS.dueReceived("two blocks", x, 255, 128, 127, 0, 170, 85, 1, 1, 2, 3, 4, 5, 6, 7);
        for (int k : FAR) {
            due("byteAt(" + k + ")", x.byteAt(k), NONE);
        }
        feed(x, Bits.START + ONE + Bits.TAIL);
        CHECKS.dueReceived("a shorter one", x, 0, 0, 0, 0, 0, 0, 1);
        due("no byte of the longer one before", x.byteAt(13), NONE);
    }

    private static void receivedStaysUntilTheNextEnd() {
        CodeBlocks x = decoding(false);
        feed(x, SEVEN);
        CHECKS.dueReceived("before the first end", x);
        feed(x, Bits.TAIL);
        CHECKS.dueReceived("first", x, 1, 2, 3, 4, 5, 6, 7);
        feed(x, Bits.START + ONE + ONE);
        CHECKS.dueReceived("while the second comes", x, 1, 2, 3, 4, 5, 6, 7);
        feed(x, Bits.TAIL);
        CHECKS.dueReceived("second", x, 0, 0, 0, 0, 0, 0, 1, 0, 0, 0, 0, 0, 0, 1);
        feed(x, Bits.START);
        feed(x, Bits.TAIL);
        CHECKS.dueReceived("behind an empty one", x, 0, 0, 0, 0, 0, 0, 1, 0, 0, 0, 0, 0, 0, 1);
        feed(x, Bits.START + SEVEN);
        x.turn(false);
        CHECKS.dueReceived("off", x, 0, 0, 0, 0, 0, 0, 1, 0, 0, 0, 0, 0, 0, 1);
    }

    // Promise 9

    private static void put() {
        CodeBlocks x = new CodeBlocks();
        for (int n = 1; n <= 259; n++) {
            due("put " + n, x.put(n), n);
        }
        due("put 260", x.put(1), NONE);
        due("put 261", x.put(2), NONE);
        due("send of 259", x.send(), 2 + 37 * 8 + 8);
        due("put after send", x.put(9), 1);
        x = new CodeBlocks();
        int[] wide = {-1, 256, 511, Integer.MIN_VALUE, Integer.MAX_VALUE, -128, 0x12345678};
        for (int b : wide) {
            x.put(b);
        }
        x.send();
        for (int k = 0; k < 7; k++) {
            due("the lowest eight bits of " + wide[k], x.sent(2 + k), wide[k] & 255);
        }
    }

    // Promises 10 and 11

    private static void send() {
        CodeBlocks x = new CodeBlocks();
        due("send() of none", x.send(), NONE);
        for (int b = 1; b <= 7; b++) {
            x.put(b);
        }
        due("sent(0) before send()", x.sent(0), NONE);
        due("send() of seven", x.send(), 18);
        CHECKS.dueSent("seven", x, 235, 144, 1, 2, 3, 4, 5, 6, 7, 112, 197, 197, 197, 197, 197, 197, 197, 121);
        due("send() again", x.send(), NONE);
        due("sent(9) stays", x.sent(9), 112);
        x.put(200);
        due("sent(2) stays until the next send()", x.sent(2), 1);
        for (int b = 0; b < 6; b++) {
            x.put(0);
        }
        x.send();
        String block = Bits.block(200, 0, 0, 0, 0, 0, 0);
        due("sent(2) of the next", x.sent(2), 200);
        due("sent(9) of the next", x.sent(9), Bits.number(block) & 255);
    }

    private static void sendFills() {
        for (int bytes = 1; bytes <= 21; bytes++) {
            CodeBlocks x = new CodeBlocks();
            int blocks = (bytes + 6) / 7;
            for (int i = 0; i < bytes; i++) {
                x.put(i + 100);
            }
            due("send() of " + bytes, x.send(), 2 + 8 * blocks + 8);
            for (int i = 0; i < 7 * blocks; i++) {
                int at = 2 + i / 7 * 8 + i % 7;
                due("data byte " + i + " of " + bytes, x.sent(at), i < bytes ? i + 100 : 85);
            }
            due("none to be sent after send() of " + bytes, x.put(1), 1);
        }
        CodeBlocks x = new CodeBlocks();
        for (int i = 0; i < 253; i++) {
            x.put(1);
        }
        due("send() of 253", x.send(), 306);
        due("the last filling byte of 253", x.sent(2 + 36 * 8 + 6), 85);
        due("the last byte of 253", x.sent(305), 121);
    }

    private static void sent() {
        CodeBlocks x = new CodeBlocks();
        for (int i = 0; i < 8; i++) {
            x.put(0);
        }
        x.send();
        due("sent(25)", x.sent(25), 121);
        due("sent(26)", x.sent(26), NONE);
        for (int k : FAR) {
            due("sent(" + k + ")", x.sent(k), NONE);
        }
        x.put(1);
        x.send();
        due("sent(17) of a shorter one", x.sent(17), 121);
        due("sent(18) of a shorter one", x.sent(18), NONE);
        due("sent(25) of a shorter one", x.sent(25), NONE);
    }

    // All of them together

    private static void objectsAreApart() {
        CodeBlocks a = searching(true);
        CodeBlocks b = new CodeBlocks();
        feed(a, Bits.START + SEVEN + Bits.TAIL);
        a.put(1);
        a.send();
        a.put(2);
        due("another object: state()", b.state(), 0);
        CHECKS.dueReceived("another object", b);
        CHECKS.dueCounts("another object", b, 0, 0, 0, 0, 0);
        due("another object: sent(0)", b.sent(0), NONE);
        due("another object: send()", b.send(), NONE);
    }

    private static CodeBlocks sender(int bytes) {
        CodeBlocks x = new CodeBlocks();
        for (int i = 0; i < bytes; i++) {
            x.put(i * 37 + 11);
        }
        return x;
    }

    /** The bits of a transmission, read from two senders by turns: one has not calls enough. */
    private static String transmission(int bytes) {
        CodeBlocks[] senders = {sender(bytes), sender(bytes)};
        int length = senders[0].send();
        due(bytes + " bytes: send() of another", senders[1].send(), length);
        StringBuilder bits = new StringBuilder();
        for (int k = 0; k < length; k++) {
            bits.append(Bits.ofNumber(senders[k % 2].sent(k), 8));
        }
        return bits.toString();
    }

    private static void sentIsReceived() {
        for (int bytes : new int[] {1, 7, 8, 100, 252, 253, 259}) {
            CodeBlocks receiver = searching(bytes % 2 == 0);
            due(bytes + " bytes: ended", feed(receiver, transmission(bytes)), 1);
            int size = (bytes + 6) / 7 * 7;
            due(bytes + " bytes: size()", receiver.size(), size);
            for (int k = 0; k < size; k++) {
                due(bytes + " bytes: byteAt(" + k + ")", receiver.byteAt(k), k < bytes ? k * 37 + 11 & 255 : 85);
            }
        }
    }
}
