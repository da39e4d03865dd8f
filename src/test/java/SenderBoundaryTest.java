/** The sender's boundary cases: a test for each sentence of the document that names one. */
public final class SenderBoundaryTest {
    private static final int NONE = CodeBlocks.NONE;
    private static final int MOST = 259;

    private static final Checks CHECKS = new Checks();

    public static void main(String[] args) {
        lastBitIsZero();
        startAndTail();
        highestBitFirst();
        checkBitsTurned();
        nothingToSend();
        lowestEightBits();
        howManyThereAre();
        noneIfFull();
        filledWith85();
        sentFromThenOn();
        noneAreToBeSent();
        noneIfThereAreNone();
        noByteThere();
        apartFromTheReceiver();
        CHECKS.end();
    }

    private static void sentence(String where, String words) {
        CHECKS.sentence(where, words);
    }

    private static void due(String call, long got, long want) {
        CHECKS.due(call, got, want);
    }

    private static CodeBlocks sent(int... bytes) {
        CodeBlocks x = new CodeBlocks();
        for (int b : bytes) {
            x.put(b);
        }
        x.send();
        return x;
    }

    // Terms

    private static void lastBitIsZero() {
        sentence("Terms", "one that is sent as 0");
        for (int b = 0; b < 256; b++) {
            CodeBlocks x = sent(b, 1, 2, 3, 4, 5, 6, b, b, b, b, b, b, b);
            due("the last bit of the first block of " + b, x.sent(9) & 1, 0);
            due("the last bit of the second block of " + b, x.sent(17) & 1, 0);
        }
    }

    private static void startAndTail() {
        sentence("Terms", "START, the 16 bits 1110101110010000; code blocks; TAIL");
        for (int bytes : new int[] {1, 7, 8, 252, 253, MOST}) {
            CodeBlocks x = Links.with(bytes);
            int length = x.send();
            due("sent(0) of " + bytes, x.sent(0), 0b11101011);
            due("sent(1) of " + bytes, x.sent(1), 0b10010000);
            for (int k = 0; k < 7; k++) {
                due("TAIL's byte " + k + " of " + bytes, x.sent(length - 8 + k), 197);
            }
            due("TAIL's last byte of " + bytes, x.sent(length - 1), 121);
        }
    }

    private static void highestBitFirst() {
        sentence("Terms", "Bytes are sent with their highest bit first");
        for (int bit = 0; bit < 8; bit++) {
            CodeBlocks sender = sent(1 << bit, 0, 0, 0, 0, 0, 0);
            String block = Bits.block(1 << bit, 0, 0, 0, 0, 0, 0);
            for (int k = 0; k < 8; k++) {
                long due = Bits.number(block.substring(8 * k, 8 * k + 8));
                due("byte " + k + " of a block that begins with " + (1 << bit), sender.sent(2 + k), due);
            }
            CodeBlocks receiver = Links.searching(false);
            for (int k = 0; k < 18; k++) {
                receiver.take(8, sender.sent(k));
            }
            CHECKS.dueReceived("as it was sent", receiver, 1 << bit, 0, 0, 0, 0, 0, 0);
        }
    }

    private static void checkBitsTurned() {
        sentence("Terms", "with the 7 check bits turned round (0 for 1, 1 for 0)");
        due("data of 0", sent(0, 0, 0, 0, 0, 0, 0).sent(9), 254);
        due("data of x^7", sent(0, 0, 0, 0, 0, 0, 1).sent(9), 0b01110100);
        for (int place = 0; place < 56; place++) {
            int[] data = new int[7];
            data[place / 8] = 128 >> place % 8;
            due("data bit " + place + " alone", sent(data).sent(9), Bits.number(Bits.block(data)) & 255);
        }
        int[] ones = {255, 255, 255, 255, 255, 255, 255};
        due("data of 1 alone", sent(ones).sent(9), Bits.number(Bits.block(ones)) & 255);
    }

    // Promise 1

    private static void nothingToSend() {
        sentence("Promise 1", "nothing to send, nothing sent or received");
        CodeBlocks x = new CodeBlocks();
        due("send(), new", x.send(), NONE);
        for (int k = -3; k < 400; k++) {
            due("sent(" + k + "), new", x.sent(k), NONE);
        }
        due("the first put", x.put(1), 1);
    }

    // Promise 9

    private static void lowestEightBits() {
        sentence("Promise 9", "the lowest eight bits of b");
        int[] wide = {-1, -128, -129, -256, -257, 255, 256, 257, 511, 65535, 65536, 0x12345678,
            Integer.MIN_VALUE, Integer.MAX_VALUE};
        int[] low = {255, 128, 127, 0, 255, 255, 0, 1, 255, 255, 0, 0x78, 0, 255};
        CodeBlocks x = sent(wide);
        for (int i = 0; i < wide.length; i++) {
            due("put(" + wide[i] + ")", x.sent(2 + i / 7 * 8 + i % 7), low[i]);
        }
        // Higher bits must not touch the bytes before, nor the check bits.
        CHECKS.dueSent("bits above the eighth", sent(0x101, 0x202, -253, 0x7FFFFF04, 0x505, 0x606, 0x707), 235, 144,
                1, 2, 3, 4, 5, 6, 7, 112, 197, 197, 197, 197, 197, 197, 197, 121);
    }

    private static void howManyThereAre() {
        sentence("Promise 9", "how many there are");
        CodeBlocks x = new CodeBlocks();
        for (int n = 1; n <= MOST; n++) {
            due("put number " + n, x.put(0), n);
        }
    }

    private static void noneIfFull() {
        sentence("Promise 9", "NONE, if there are 259");
        CodeBlocks x = Links.with(MOST - 1);
        due("the 259th", x.put(7), MOST);
        for (int n = 260; n < 280; n++) {
            due("put number " + n, x.put(n), NONE);
        }
        due("send() of 259", x.send(), 306);
        for (int i = 0; i < MOST - 1; i += 2) {
            due("data byte " + i, x.sent(2 + i / 7 * 8 + i % 7), 100 + i & 255);
        }
        due("data byte 258 is not one that was refused", x.sent(2 + 36 * 8 + 6), 7);
        due("the first put then", x.put(3), 1);
        x = sent(1, 2, 3);
        for (int n = 1; n <= MOST; n++) {
            due("put number " + n + " behind send()", x.put(3), n);
        }
        due("full behind send()", x.put(3), NONE);
    }

    // Promise 10

    private static void filledWith85() {
        sentence("Promise 10", "then as many 85 as make them a multiple of seven");
        for (int bytes = 1; bytes <= MOST; bytes++) {
            CodeBlocks x = Links.with(bytes);
            int blocks = (bytes + 6) / 7;
            due("send() of " + bytes, x.send(), 2 + 8 * blocks + 8);
            int first = bytes < 14 ? 0 : 7 * (blocks - 2);
            for (int i = first; i < 7 * blocks; i++) {
                due("data byte " + i + " of " + bytes, x.sent(2 + i / 7 * 8 + i % 7), i < bytes ? 100 + i & 255 : 85);
            }
            int[] last = new int[7];
            for (int i = 0; i < 7; i++) {
                int at = 7 * (blocks - 1) + i;
                last[i] = at < bytes ? 100 + at : 85;
            }
            due("check bits of " + bytes, x.sent(1 + 8 * blocks), Bits.number(Bits.block(last)) & 255);
            due("behind the last byte of " + bytes, x.sent(2 + 8 * blocks + 8), NONE);
        }
        // A filling byte is not one that waits: the next transmission begins with none.
        CodeBlocks x = sent(1);
        x.put(2);
        due("send() of one behind one", x.send(), 18);
        due("its first byte", x.sent(2), 2);
        due("its second byte", x.sent(3), 85);
    }

    private static void sentFromThenOn() {
        sentence("Promise 10", "it is what is SENT from then on");
        CodeBlocks x = sent(1, 2, 3, 4, 5, 6, 7, 8);
        due("a long one", x.sent(25), 121);
        for (int b = 11; b <= 17; b++) {
            x.put(b);
            due("put does not change what is sent", x.sent(2), 1);
        }
        due("a short one", x.send(), 18);
        String block = Bits.block(11, 12, 13, 14, 15, 16, 17);
        CHECKS.dueSent("a short one", x, 235, 144, 11, 12, 13, 14, 15, 16, 17, (int) Bits.number(block) & 255,
                197, 197, 197, 197, 197, 197, 197, 121);
        due("nothing of the long one", x.sent(25), NONE);
    }

    private static void noneAreToBeSent() {
        sentence("Promise 10", "none are to be sent");
        for (int bytes : new int[] {1, 6, 7, 8, 258, MOST}) {
            CodeBlocks x = Links.with(bytes);
            x.send();
            due("send() behind send() of " + bytes, x.send(), NONE);
            due("put behind send() of " + bytes, x.put(9), 1);
            due("send() of one then", x.send(), 18);
            due("its byte", x.sent(2), 9);
        }
    }

    private static void noneIfThereAreNone() {
        sentence("Promise 10", "NONE if there are none");
        CodeBlocks x = new CodeBlocks();
        due("send(), new", x.send(), NONE);
        due("send(), twice", x.send(), NONE);
        due("nothing is sent", x.sent(0), NONE);
        for (int b = 1; b <= 7; b++) {
            x.put(b);
        }
        due("send() of seven", x.send(), 18);
        due("send() of none", x.send(), NONE);
        CHECKS.dueSent("a refused send() leaves what is sent", x, 235, 144, 1, 2, 3, 4, 5, 6, 7, 112,
                197, 197, 197, 197, 197, 197, 197, 121);
    }

    // Promise 11

    private static void noByteThere() {
        sentence("Promise 11", "NONE if there is none");
        CodeBlocks x = new CodeBlocks();
        due("sent(0), new", x.sent(0), NONE);
        x.put(1);
        due("sent(0) before send()", x.sent(0), NONE);
        x.send();
        due("sent(0)", x.sent(0), 235);
        due("sent(17)", x.sent(17), 121);
        for (int k = 18; k < 320; k++) {
            due("sent(" + k + ")", x.sent(k), NONE);
        }
        for (int k : Links.FAR) {
            due("sent(" + k + ")", x.sent(k), NONE);
        }
        x = Links.with(MOST);
        x.send();
        due("sent(305), full", x.sent(305), 121);
        due("sent(306), full", x.sent(306), NONE);
        for (int k : Links.FAR) {
            due("sent(" + k + "), full", x.sent(k), NONE);
        }
        x.put(1);
        x.send();
        due("sent(18), behind a full one", x.sent(18), NONE);
        due("sent(305), behind a full one", x.sent(305), NONE);
    }

    // The first section

    private static void apartFromTheReceiver() {
        sentence("What it is", "A command link's two ends");
        CodeBlocks x = new CodeBlocks();
        x.put(1);
        x.turn(true);
        x.put(2);
        Links.feed(x, Bits.START + Links.SEVEN);
        due("put while it decodes", x.put(3), 3);
        x.turn(false);
        due("put while it is off", x.put(4), 4);
        x.turn(true);
        Links.feed(x, Bits.START + Links.SEVEN + Bits.TAIL);
        due("send() of four", x.send(), 18);
        due("send() of four: sent(5)", x.sent(5), 4);
        CHECKS.dueReceived("send() does not change what was received", x, 1, 2, 3, 4, 5, 6, 7);
        due("send() does not change the state", x.state(), 1);
    }
}
