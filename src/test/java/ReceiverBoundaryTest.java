/** The receiver's boundary cases: a test for each sentence of the document that names one. */
public final class ReceiverBoundaryTest {
    private static final int NONE = CodeBlocks.NONE;
    private static final String ZEROS = Links.ZEROS;
    private static final String ONE = Links.ONE;
    private static final String SEVEN = Links.SEVEN;
    private static final boolean[] BOTH = {false, true};

    private static final Checks CHECKS = new Checks();

    public static void main(String[] args) {
        lastBitMeansNothing();
        rightIfDivided();
        firstAndLastPower();
        fifteenBefore();
        sinceItBeganToSearch();
        startIsSixteenBits();
        startDiffersInOne();
        decodesFromTheNextBit();
        eachSixtyFour();
        blockDiffersInOne();
        blockNearAnother();
        rowWasEmpty();
        elseItEnds();
        endsWithBlock37();
        searchesAnew();
        receivedFromThenOn();
        nothingReceived();
        newWithoutMending();
        onFromNowOn();
        rowIsLost();
        soAlready();
        mendingFromTheNext();
        mendingOrNot();
        lowestBitsHighestFirst();
        endWithThem();
        noneComeIfOff();
        noneComeIfLengthIsWrong();
        sinceItWasMade();
        anotherWhat();
        howManyReceived();
        noByteThere();
        CHECKS.end();
    }

    private static void sentence(String where, String words) {
        CHECKS.sentence(where, words);
    }

    private static void due(String call, long got, long want) {
        CHECKS.due(call, got, want);
    }

    private static void due(String call, boolean got, boolean want) {
        CHECKS.due(call, got, want);
    }

    private static int feed(CodeBlocks x, String bits) {
        return Links.feed(x, bits);
    }

    private static CodeBlocks searching(boolean mending) {
        return Links.searching(mending);
    }

    private static CodeBlocks decoding(boolean mending) {
        return Links.decoding(mending);
    }

    // Terms: a code block

    private static void lastBitMeansNothing() {
        sentence("Terms", "one that is sent as 0 and means nothing to the receiver");
        for (boolean mending : BOTH) {
            for (String last : new String[] {"0", "1"}) {
                CodeBlocks x = decoding(mending);
                due("a right block with last bit " + last, feed(x, SEVEN.substring(0, 63) + last), 0);
                CHECKS.dueCounts("last bit " + last, x, 1, 0, 1, 0, 0);
                due("TAIL with last bit " + last, feed(x, Bits.TAIL.substring(0, 63) + last), 1);
                CHECKS.dueReceived("last bit " + last, x, 1, 2, 3, 4, 5, 6, 7);
            }
        }
        for (int i = 0; i < 63; i++) {
            CodeBlocks x = decoding(true);
            due("bit " + i + " and the last bit wrong", feed(x, Bits.flip(SEVEN, i, 63)), 0);
            CHECKS.dueCounts("bit " + i + " and the last bit wrong", x, 1, 0, 1, 1, 0);
        }
    }

    private static void rightIfDivided() {
        sentence("Terms", "they are a polynomial over 0 and 1 that x^7 + x^6 + x^2 + 1 divides");
        int[][] edges = {{0, 0, 0, 0, 0, 0, 0}, {255, 255, 255, 255, 255, 255, 255}, {128, 0, 0, 0, 0, 0, 0},
            {0, 0, 0, 0, 0, 0, 1}, {170, 170, 170, 170, 170, 170, 170}};
        for (int[] data : edges) {
            CodeBlocks x = decoding(false);
            due("a block of " + data[0] + " ..", feed(x, Bits.block(data) + Bits.TAIL), 1);
            CHECKS.dueReceived("a block of " + data[0] + " ..", x, data);
        }
        for (int check = 0; check < 128; check++) {
            String block = Bits.ofBytes(0, 0, 0, 0, 0, 0, 0) + Bits.ofNumber(check, 7) + "0";
            due("data 0 with check " + check, feed(decoding(false), block), check == 127 ? 0 : 1);
        }
        due("64 bits of 0", feed(decoding(false), "0".repeat(64)), 1);
        due("64 bits of 1", feed(decoding(false), "1".repeat(64)), Bits.right("1".repeat(63)) ? 0 : 1);
    }

    private static void firstAndLastPower() {
        sentence("Terms", "the first bit being that of x^62, the last that of 1");
        for (int place = 0; place < 56; place++) {
            // The data bit alone is this power of x, so the check bits are what it leaves, turned.
            String data = Bits.flip("0".repeat(56), place);
            String left = Bits.remainder("1" + "0".repeat(62 - place));
            String block = data + Bits.flipAll(left) + "0";
            CodeBlocks x = decoding(false);
            due("data bit " + place + " alone", feed(x, block + Bits.TAIL), 1);
            due("data bit " + place + " alone: size()", x.size(), 7);
            due("data bit " + place + " alone: its byte", x.byteAt(place / 8), 128 >> place % 8);
        }
    }

    // Terms: searching

    private static void fifteenBefore() {
        sentence("Terms", "it looks at each bit that comes, with the 15 before it");
        for (int before = 0; before <= 80; before++) {
            for (String bit : new String[] {"0", "1"}) {
                CodeBlocks x = searching(false);
                feed(x, bit.repeat(before) + Bits.START.substring(0, 15));
                due(before + " bits of " + bit + " and 15 of START", x.state(), 1);
                feed(x, "0");
                due(before + " bits of " + bit + " and START", x.state(), 2);
            }
        }
        for (int n = 1; n <= 15; n++) {
            CodeBlocks x = searching(false);
            feed(x, Bits.START.substring(0, n) + Bits.START);
            due(n + " bits of START and START", x.state(), 2);
        }
    }

    private static void sinceItBeganToSearch() {
        sentence("Terms", "since it began to search");
        for (int cut = 1; cut < 16; cut++) {
            CodeBlocks off = searching(false);
            feed(off, Bits.START.substring(0, cut));
            off.turn(false);
            off.turn(true);
            feed(off, Bits.START.substring(cut));
            due(cut + " bits of START came before it was off", off.state(), 1);

            // With mending, fifteen bits of START are as good as START, but never without a sixteenth.
            CodeBlocks fresh = searching(true);
            feed(fresh, Bits.START.substring(cut));
            due("a new object and all of START but " + cut + " bits, mending", fresh.state(), 1);

            CodeBlocks ended = decoding(false);
            String last = "0".repeat(64 - cut) + Bits.START.substring(0, cut);
            // One of them happens to be right, and must not be.
            String wrong = Bits.right(last.substring(0, 63)) ? Bits.flip(last, 0) : last;
            due("a last block with " + cut + " bits of START", feed(ended, wrong), 1);
            feed(ended, Bits.START.substring(cut));
            due(cut + " bits of START were in the last block", ended.state(), 1);
            feed(ended, Bits.START);
            due("and START behind", ended.state(), 2);
        }
    }

    private static void startIsSixteenBits() {
        sentence("Terms", "if these 16 are START");
        int found = 0;
        for (int word = 0; word < 65536; word++) {
            CodeBlocks x = searching(false);
            x.take(16, word);
            found += x.state() == 2 ? 1 : 0;
        }
        due("how many words of 16 bits are START", found, 1);
        CodeBlocks x = searching(false);
        x.take(16, 0b1110101110010000);
        due("START", x.state(), 2);
        CHECKS.dueCounts("START", x, 1, 0, 0, 0, 0);
    }

    private static void startDiffersInOne() {
        sentence("Terms", "or, with MENDING, differ from it in one bit");
        int found = 0;
        for (int word = 0; word < 65536; word++) {
            CodeBlocks x = searching(true);
            x.take(16, word);
            found += x.state() == 2 ? 1 : 0;
        }
        due("how many words of 16 bits are START, mending", found, 17);
        for (int i = 0; i < 16; i++) {
            CodeBlocks x = searching(true);
            feed(x, Bits.flip(Bits.START, i));
            due("START with bit " + i + " wrong, mending", x.state(), 2);
            CHECKS.dueCounts("START with bit " + i + " wrong, mending", x, 1, 0, 0, 0, 1);
            x = searching(false);
            feed(x, Bits.flip(Bits.START, i));
            due("START with bit " + i + " wrong, no mending", x.state(), 1);
        }
    }

    // Terms: decoding

    private static void decodesFromTheNextBit() {
        sentence("Terms", "it decodes from the next bit on");
        for (int before = 0; before < 64; before++) {
            // START stands at every place of a call's 64 bits, with the block right behind it.
            CodeBlocks x = searching(false);
            feed(x, "1".repeat(before) + Bits.START + SEVEN + Bits.TAIL);
            CHECKS.dueReceived("behind " + before + " bits of 1", x, 1, 2, 3, 4, 5, 6, 7);
        }
        CodeBlocks x = decoding(false);
        due("a bit between START and the block", feed(x, "0" + SEVEN), 1);
    }

    private static void eachSixtyFour() {
        sentence("Terms", "each 64 bits are a block");
        CodeBlocks x = decoding(false);
        for (int block = 1; block <= 3; block++) {
            feed(x, SEVEN.substring(0, 63));
            due("63 bits of block " + block, x.count(2), block - 1);
            feed(x, SEVEN.substring(63));
            due("64 bits of block " + block, x.count(2), block);
        }
        due("63 bits of TAIL", feed(x, Bits.TAIL.substring(0, 63)), 0);
        due("63 bits of TAIL: state()", x.state(), 2);
        due("the 64th bit of TAIL", feed(x, "1"), 1);
        due("the 64th bit of TAIL: state()", x.state(), 1);
        x = decoding(false);
        feed(x, Bits.START.repeat(3));
        CHECKS.dueCounts("START is not looked for in a block", x, 1, 0, 0, 0, 0);
    }

    private static void blockDiffersInOne() {
        sentence("Terms", "or, with mending, differ in one bit from such as are, the data bits of these come to the"
                + " ROW");
        for (int i = 0; i < 63; i++) {
            CodeBlocks x = decoding(true);
            due("bit " + i + " wrong, mending", feed(x, Bits.flip(SEVEN, i)), 0);
            CHECKS.dueCounts("bit " + i + " wrong, mending", x, 1, 0, 1, 1, 0);
            feed(x, Bits.TAIL);
            CHECKS.dueReceived("bit " + i + " wrong, mending", x, 1, 2, 3, 4, 5, 6, 7);
            x = decoding(false);
            due("bit " + i + " wrong, no mending", feed(x, Bits.flip(SEVEN, i)), 1);
            CHECKS.dueCounts("bit " + i + " wrong, no mending", x, 1, 1, 0, 0, 0);
            for (int j = 0; j < i; j++) {
                due("bits " + j + " and " + i + " wrong", feed(decoding(true), Bits.flip(SEVEN, i, j)), 1);
            }
        }
    }

    /** Wrong bits that make another block, or its neighbour: it is not known which block was meant. */
    private static void blockNearAnother() {
        sentence("Terms", "differ in one bit from such as are");
        int near = 0;
        int far = 0;
        for (int i = 0; i < 61; i++) {
            for (int j = i + 1; j < 62; j++) {
                String wrong = Bits.flip(ZEROS, i, j, 62);
                int place = placeToMend(wrong);
                CodeBlocks x = decoding(true);
                due("bits " + i + ", " + j + ", 62 wrong", feed(x, wrong), place < 0 ? 1 : 0);
                CHECKS.dueCounts("bits " + i + ", " + j + ", 62 wrong", x, 1, place < 0 ? 1 : 0,
                        place < 0 ? 0 : 1, place < 0 ? 0 : 1, 0);
                near += place < 0 ? 0 : 1;
                far += place < 0 ? 1 : 0;
                if (place >= 0 && i < 8) {
                    feed(x, Bits.TAIL);
                    long first = Bits.number(Bits.flip(wrong, place).substring(0, 8));
                    due("bits " + i + ", " + j + ", 62 wrong: byteAt(0)", x.byteAt(0), first);
                }
            }
        }
        due("some are near another block", near > 0, true);
        due("some are near none", far > 0, true);
    }

    private static int placeToMend(String block) {
        for (int place = 0; place < 63; place++) {
            if (Bits.right(Bits.flip(block, place).substring(0, 63))) {
                return place;
            }
        }
        return -1;
    }

    private static void rowWasEmpty() {
        sentence("Terms", "the ROW, which was empty when it began");
        CodeBlocks x = decoding(false);
        feed(x, SEVEN + SEVEN + Bits.TAIL + Bits.START + ONE + Bits.TAIL);
        CHECKS.dueReceived("one block behind two", x, 0, 0, 0, 0, 0, 0, 1);
        feed(x, Bits.START + SEVEN + Bits.TAIL);
        CHECKS.dueReceived("one block behind one", x, 1, 2, 3, 4, 5, 6, 7);
        x = decoding(false);
        feed(x, SEVEN.repeat(37) + Bits.START + ONE + Bits.TAIL);
        CHECKS.dueReceived("one block behind 37", x, 0, 0, 0, 0, 0, 0, 1);
    }

    // Terms: the end

    private static void elseItEnds() {
        sentence("Terms", "Else the transmission ENDS");
        for (boolean mending : BOTH) {
            for (int blocks = 0; blocks < 37; blocks++) {
                CodeBlocks x = decoding(mending);
                due(blocks + " blocks", feed(x, SEVEN.repeat(blocks)), 0);
                due(blocks + " blocks: state()", x.state(), 2);
                due(blocks + " blocks and TAIL", feed(x, Bits.TAIL), 1);
                due(blocks + " blocks and TAIL: state()", x.state(), 1);
                CHECKS.dueCounts(blocks + " blocks and TAIL", x, 1, 1, blocks, 0, 0);
                due(blocks + " blocks and TAIL: size()", x.size(), 7 * blocks);
            }
        }
    }

    private static void endsWithBlock37() {
        sentence("Terms", "it does, too, with the 37th block");
        for (boolean mending : BOTH) {
            CodeBlocks x = decoding(mending);
            due("36 blocks", feed(x, SEVEN.repeat(36)), 0);
            due("36 blocks: state()", x.state(), 2);
            due("36 blocks: size()", x.size(), 0);
            due("63 bits of the 37th", feed(x, ONE.substring(0, 63)), 0);
            due("the 37th", feed(x, ONE.substring(63)), 1);
            due("the 37th: state()", x.state(), 1);
            CHECKS.dueCounts("the 37th", x, 1, 1, 37, 0, 0);
            due("the 37th: size()", x.size(), 259);
            due("the 37th: byteAt(251)", x.byteAt(251), 7);
            due("the 37th: byteAt(257)", x.byteAt(257), 0);
            due("the 37th: byteAt(258)", x.byteAt(258), 1);
            due("the 37th: byteAt(259)", x.byteAt(259), NONE);
            due("a 38th right behind it is searched, not decoded", feed(x, SEVEN + Bits.TAIL), 0);
            due("a 38th: count(2)", x.count(2), 37);
            due("it holds for the next too", feed(x, Bits.START + SEVEN.repeat(37)), 1);
            due("it holds for the next too: count(2)", x.count(2), 74);
        }
        CodeBlocks x = decoding(true);
        feed(x, SEVEN.repeat(36));
        due("a 37th with one wrong bit", feed(x, Bits.flip(ONE, 0)), 1);
        CHECKS.dueCounts("a 37th with one wrong bit", x, 1, 1, 37, 1, 0);
        due("a 37th with one wrong bit: size()", x.size(), 259);
        due("a 37th with one wrong bit: byteAt(252)", x.byteAt(252), 0);
        x = decoding(true);
        feed(x, SEVEN.repeat(36));
        due("a 37th that can't be mended ends it once", feed(x, Bits.flip(ONE, 0, 1)), 1);
        CHECKS.dueCounts("a 37th that can't be mended", x, 1, 1, 36, 0, 0);
        due("a 37th that can't be mended: size()", x.size(), 252);
    }

    private static void searchesAnew() {
        sentence("Terms", "Behind its end it searches anew");
        for (boolean mending : BOTH) {
            CodeBlocks x = decoding(mending);
            for (int n = 1; n <= 5; n++) {
                feed(x, Bits.TAIL);
                due("end " + n + ": state()", x.state(), 1);
                feed(x, Bits.START.substring(0, 15));
                due("15 bits behind end " + n, x.state(), 1);
                feed(x, "0");
                due("16 bits behind end " + n, x.state(), 2);
                due("16 bits behind end " + n + ": count(0)", x.count(0), n + 1);
            }
        }
        CodeBlocks x = decoding(false);
        feed(x, SEVEN.repeat(37));
        feed(x, Bits.START.substring(0, 15));
        due("15 bits behind block 37", x.state(), 1);
        feed(x, "0");
        due("16 bits behind block 37", x.state(), 2);
        // In one call: the last bits of a block that ends it, and START behind them.
        x = decoding(false);
        feed(x, Bits.TAIL.substring(0, 63));
        due("an end and START in one call", feed(x, "1" + Bits.START), 1);
        due("an end and START in one call: state()", x.state(), 2);
    }

    private static void receivedFromThenOn() {
        sentence("Terms", "and if the row has anything, it is what was RECEIVED from then on");
        CodeBlocks x = decoding(false);
        feed(x, Bits.TAIL);
        CHECKS.dueReceived("an empty one first", x);
        feed(x, Bits.START + SEVEN + Bits.TAIL.substring(0, 63));
        CHECKS.dueReceived("before the end", x);
        feed(x, "1");
        CHECKS.dueReceived("behind the end", x, 1, 2, 3, 4, 5, 6, 7);
        feed(x, Bits.START + Bits.TAIL);
        due("an empty one ends too", x.count(1), 3);
        CHECKS.dueReceived("behind an empty one", x, 1, 2, 3, 4, 5, 6, 7);
        feed(x, Bits.START + ONE + ZEROS + ONE);
        CHECKS.dueReceived("while the next comes", x, 1, 2, 3, 4, 5, 6, 7);
        feed(x, Bits.TAIL);
        CHECKS.dueReceived("behind the next", x, 0, 0, 0, 0, 0, 0, 1, 0, 0, 0, 0, 0, 0, 0, 0, 0, 0, 0, 0, 0, 1);
        feed(x, Bits.START + SEVEN + Bits.TAIL);
        CHECKS.dueReceived("a shorter one", x, 1, 2, 3, 4, 5, 6, 7);
        due("a shorter one: byteAt(20)", x.byteAt(20), NONE);
        x.turn(false);
        CHECKS.dueReceived("off", x, 1, 2, 3, 4, 5, 6, 7);
        x.turn(true);
        CHECKS.dueReceived("on again", x, 1, 2, 3, 4, 5, 6, 7);
    }

    // Promise 1

    private static void nothingReceived() {
        sentence("Promise 1", "nothing to send, nothing sent or received");
        CodeBlocks x = new CodeBlocks();
        CHECKS.dueReceived("new", x);
        CHECKS.dueCounts("new", x, 0, 0, 0, 0, 0);
        x.turn(true);
        CHECKS.dueReceived("on", x);
        feed(x, Bits.START + SEVEN);
        CHECKS.dueReceived("before the first end", x);
    }

    private static void newWithoutMending() {
        sentence("Promise 1", "Off, without mending");
        CodeBlocks x = new CodeBlocks();
        due("state()", x.state(), 0);
        due("take(1, 0)", x.take(1, 0L), NONE);
        due("turn(false)", x.turn(false), false);
        x.turn(true);
        feed(x, Bits.flip(Bits.START, 7));
        due("START with a wrong bit", x.state(), 1);
        feed(x, Bits.START);
        due("a block with a wrong bit", feed(x, Bits.flip(SEVEN, 7)), 1);
    }

    // Promise 2

    private static void onFromNowOn() {
        sentence("Promise 2", "It is on, from now on, and searches");
        CodeBlocks x = new CodeBlocks();
        for (int n = 1; n <= 3; n++) {
            due("on, time " + n, x.turn(true), true);
            due("on, time " + n + ": state()", x.state(), 1);
            due("START, time " + n, x.take(16, 0xEB90L), 0);
            due("START, time " + n + ": state()", x.state(), 2);
            due("off, time " + n, x.turn(false), true);
            due("off, time " + n + ": state()", x.state(), 0);
        }
        x.turn(true);
        feed(x, Bits.START + SEVEN.substring(0, 40));
        x.turn(false);
        x.turn(true);
        due("it does not go on with a block", feed(x, SEVEN.substring(40)), 0);
        due("it does not go on with a block: state()", x.state(), 1);
        feed(x, Bits.START + SEVEN);
        due("nor is it part of the next", x.count(2), 1);
    }

    private static void rowIsLost() {
        sentence("Promise 2", "what is in the row is lost");
        for (int blocks = 1; blocks <= 36; blocks += 5) {
            CodeBlocks x = decoding(false);
            feed(x, ZEROS + Bits.TAIL + Bits.START + SEVEN.repeat(blocks));
            x.turn(false);
            CHECKS.dueReceived("off with a row of " + blocks, x, 0, 0, 0, 0, 0, 0, 0);
            due("off ends no transmission", x.count(1), 1);
            x.turn(true);
            CHECKS.dueReceived("on again", x, 0, 0, 0, 0, 0, 0, 0);
            due("an empty one ends", feed(x, Bits.START + Bits.TAIL), 1);
            CHECKS.dueReceived("an empty one", x, 0, 0, 0, 0, 0, 0, 0);
            feed(x, Bits.START + ONE + Bits.TAIL);
            CHECKS.dueReceived("one block", x, 0, 0, 0, 0, 0, 0, 1);
            due("37 blocks from the first on", feed(x, Bits.START + SEVEN.repeat(36)), 0);
            due("37 blocks from the first on: the last", feed(x, SEVEN), 1);
        }
    }

    private static void soAlready() {
        sentence("Promise 2", "false if it is so already");
        CodeBlocks x = new CodeBlocks();
        due("turn(false), new", x.turn(false), false);
        due("turn(true), off", x.turn(true), true);
        due("turn(true), searching", x.turn(true), false);
        due("turn(true), searching: state()", x.state(), 1);
        feed(x, Bits.START.substring(0, 9));
        due("turn(true), half a START", x.turn(true), false);
        feed(x, Bits.START.substring(9));
        due("half a START was not forgotten", x.state(), 2);
        feed(x, SEVEN + SEVEN.substring(0, 50));
        due("turn(true), decoding", x.turn(true), false);
        due("turn(true), decoding: state()", x.state(), 2);
        feed(x, SEVEN.substring(50) + Bits.TAIL);
        CHECKS.dueReceived("the row was not lost", x, 1, 2, 3, 4, 5, 6, 7, 1, 2, 3, 4, 5, 6, 7);
        due("turn(false), on", x.turn(false), true);
        due("turn(false), off", x.turn(false), false);
        due("turn(false), off: state()", x.state(), 0);
        CHECKS.dueReceived("what was received stays", x, 1, 2, 3, 4, 5, 6, 7, 1, 2, 3, 4, 5, 6, 7);
    }

    // Promise 3

    private static void mendingFromTheNext() {
        sentence("Promise 3", "Mending from the next START or block that is looked at on, or not");
        String wrongStart = Bits.flip(Bits.START, 3);
        String wrongBlock = Bits.flip(SEVEN, 5);
        for (int cut = 0; cut < 16; cut++) {
            CodeBlocks x = searching(false);
            feed(x, wrongStart.substring(0, cut));
            x.mending(true);
            feed(x, wrongStart.substring(cut));
            due("mending behind " + cut + " bits of START", x.state(), 2);
            x = searching(true);
            feed(x, wrongStart.substring(0, cut));
            x.mending(false);
            feed(x, wrongStart.substring(cut));
            due("no mending behind " + cut + " bits of START", x.state(), 1);
        }
        for (int cut = 0; cut < 64; cut++) {
            CodeBlocks x = decoding(false);
            feed(x, wrongBlock.substring(0, cut));
            x.mending(true);
            due("mending behind " + cut + " bits of a block", feed(x, wrongBlock.substring(cut)), 0);
            x = decoding(true);
            feed(x, wrongBlock.substring(0, cut));
            x.mending(false);
            due("no mending behind " + cut + " bits of a block", feed(x, wrongBlock.substring(cut)), 1);
        }
        CodeBlocks x = searching(false);
        feed(x, wrongStart);
        x.mending(true);
        due("what was looked at is not looked at again", x.state(), 1);
        x = searching(true);
        feed(x, wrongStart + wrongBlock);
        x.mending(false);
        due("what was mended stays: state()", x.state(), 2);
        feed(x, Bits.TAIL);
        CHECKS.dueReceived("what was mended stays", x, 1, 2, 3, 4, 5, 6, 7);
    }

    private static void mendingOrNot() {
        sentence("Promise 3", "or not");
        CodeBlocks x = new CodeBlocks();
        x.mending(true);
        due("mending while off: state()", x.state(), 0);
        x.turn(true);
        feed(x, Bits.flip(Bits.START, 15));
        due("mending while off holds when it is on", x.state(), 2);
        x.mending(true);
        due("mending twice", feed(x, Bits.flip(SEVEN, 62)), 0);
        x.mending(false);
        due("a right block without mending", feed(x, SEVEN), 0);
        due("a wrong block without mending", feed(x, Bits.flip(SEVEN, 62)), 1);
        feed(x, Bits.flip(Bits.START, 15));
        due("START with a wrong bit without mending", x.state(), 1);
        x.mending(false);
        x.mending(true);
        x.turn(false);
        x.turn(true);
        feed(x, Bits.flip(Bits.START, 15));
        due("mending outlives off", x.state(), 2);
    }

    // Promise 4

    private static void lowestBitsHighestFirst() {
        sentence("Promise 4", "The n lowest bits of w come, the highest of these first");
        String bits = "101" + Bits.START + SEVEN + ONE + Bits.TAIL + "0110";
        for (int n = 1; n <= 64; n++) {
            for (boolean above : BOTH) {
                CodeBlocks x = searching(false);
                for (int from = 0; from < bits.length(); from += n) {
                    String part = bits.substring(from, Math.min(bits.length(), from + n));
                    long others = above && part.length() < 64 ? -1L << part.length() : 0L;
                    x.take(part.length(), others | Bits.number(part));
                }
                CHECKS.dueReceived("by " + n, x, 1, 2, 3, 4, 5, 6, 7, 0, 0, 0, 0, 0, 0, 1);
                CHECKS.dueCounts("by " + n, x, 1, 1, 2, 0, 0);
            }
        }
    }

    private static void endWithThem() {
        sentence("Promise 4", "how many transmissions end with them");
        for (int last = 1; last <= 64; last++) {
            CodeBlocks x = decoding(false);
            feed(x, SEVEN);
            due("all but " + last + " bits of TAIL", feed(x, Bits.TAIL.substring(0, 64 - last)), 0);
            due("the last " + last + " bits", x.take(last, Bits.number(Bits.TAIL.substring(64 - last))), 1);
            due("a bit behind the end", x.take(1, 0L), 0);
        }
        CodeBlocks x = decoding(false);
        String between = Bits.TAIL.substring(16) + Bits.START;
        feed(x, Bits.TAIL.substring(0, 16));
        for (int n = 0; n < 4; n++) {
            due("an end and a START in one call", x.take(64, Bits.number(between)), 1);
            due("a beginning alone", x.take(16, Bits.number(Bits.TAIL.substring(0, 16))), 0);
        }
    }

    private static void noneComeIfOff() {
        sentence("Promise 4", "NONE (and none come) if it is off");
        CodeBlocks x = new CodeBlocks();
        due("START, new", x.take(16, 0xEB90L), NONE);
        due("one bit, new", x.take(1, 1L), NONE);
        due("no bit, new", x.take(0, 1L), NONE);
        due("64 bits, new", x.take(64, 0xEB90L), NONE);
        due("new: state()", x.state(), 0);
        x.turn(true);
        due("what came while it was off: state()", x.state(), 1);
        feed(x, Bits.START.substring(0, 8));
        x.turn(false);
        due("the rest of START, off again", x.take(8, 0x90L), NONE);
        x.turn(true);
        CHECKS.dueCounts("off again", x, 0, 0, 0, 0, 0);
        feed(x, Bits.START + SEVEN);
        x.turn(false);
        due("TAIL, off", x.take(64, Bits.number(Bits.TAIL)), NONE);
        due("TAIL, off: state()", x.state(), 0);
        CHECKS.dueCounts("TAIL, off", x, 1, 0, 1, 0, 0);
        due("TAIL, off: size()", x.size(), 0);
    }

    private static void noneComeIfLengthIsWrong() {
        sentence("Promise 4", "NONE (and none come) if it is off or n is not 1 .. 64");
        int[] near = {0, 65, 66, 80, 127, 128, 129, 255, 256, 272};
        CodeBlocks x = searching(false);
        feed(x, Bits.START.substring(0, 8));
        refused(x, near);
        refused(x, Links.FAR);
        feed(x, Bits.START.substring(8));
        due("none came while it searched", x.state(), 2);
        feed(x, SEVEN.substring(0, 30));
        refused(x, near);
        refused(x, Links.FAR);
        feed(x, SEVEN.substring(30) + Bits.TAIL);
        CHECKS.dueReceived("none came while it decoded", x, 1, 2, 3, 4, 5, 6, 7);
        x = searching(false);
        due("take(1, ..)", x.take(1, 1L), 0);
        due("take(64, ..)", x.take(64, 0xEB90L), 0);
        due("take(64, ..): state()", x.state(), 2);
    }

    private static void refused(CodeBlocks x, int[] lengths) {
        int before = x.state();
        for (int n : lengths) {
            due("take(" + n + ", 0)", x.take(n, 0L), NONE);
            due("take(" + n + ", -1)", x.take(n, -1L), NONE);
            due("take(" + n + ", START)", x.take(n, 0xEB90L), NONE);
            due("take(" + n + ", ..): state()", x.state(), before);
        }
    }

    // Promise 6

    private static void sinceItWasMade() {
        sentence("Promise 6", "Of all bits since it was made");
        CodeBlocks x = searching(true);
        String one = Bits.flip(Bits.START, 15) + SEVEN + Bits.flip(SEVEN, 0) + Bits.flip(SEVEN, 62, 63);
        for (int n = 1; n <= 20; n++) {
            feed(x, one + Bits.TAIL);
            CHECKS.dueCounts("transmission " + n, x, n, n, 3 * n, 2 * n, n);
        }
        feed(x, one);
        x.turn(false);
        CHECKS.dueCounts("off", x, 21, 20, 63, 42, 21);
        x.turn(true);
        CHECKS.dueCounts("on again", x, 21, 20, 63, 42, 21);
        feed(x, Bits.START + SEVEN + Bits.TAIL);
        CHECKS.dueCounts("a right one", x, 22, 21, 64, 42, 21);
        feed(x, Bits.START + Bits.flip(SEVEN, 0, 1));
        CHECKS.dueCounts("two wrong bits", x, 23, 22, 64, 42, 21);
    }

    private static void anotherWhat() {
        sentence("Promise 6", "NONE for another what");
        CodeBlocks x = searching(true);
        feed(x, Bits.flip(Bits.START, 1) + Bits.flip(SEVEN, 1) + Bits.TAIL);
        CHECKS.dueCounts("0 to 4", x, 1, 1, 1, 1, 1);
        for (int what : new int[] {-5, -4, -3, 5, 6, 7, 8, 9, 16, 32, 64, 256, 260}) {
            due("count(" + what + ")", x.count(what), NONE);
        }
        for (int what : Links.FAR) {
            due("count(" + what + ")", x.count(what), NONE);
        }
        due("count(5), new", new CodeBlocks().count(5), NONE);
        due("count(-1), new", new CodeBlocks().count(-1), NONE);
    }

    // Promises 7 and 8

    private static void howManyReceived() {
        sentence("Promise 7", "How many bytes were received");
        for (int blocks : new int[] {0, 1, 2, 35, 36, 37}) {
            CodeBlocks x = decoding(false);
            feed(x, SEVEN.repeat(blocks) + Bits.TAIL);
            due(blocks + " blocks", x.size(), 7 * blocks);
        }
    }

    private static void noByteThere() {
        sentence("Promise 8", "NONE if there is none");
        CodeBlocks x = new CodeBlocks();
        due("byteAt(0), new", x.byteAt(0), NONE);
        due("byteAt(-1), new", x.byteAt(-1), NONE);
        x.turn(true);
        feed(x, Bits.START + Bits.block(255, 128, 127, 0, 1, 254, 85));
        due("byteAt(0), in the row only", x.byteAt(0), NONE);
        feed(x, Bits.TAIL);
        CHECKS.dueReceived("one block", x, 255, 128, 127, 0, 1, 254, 85);
        for (int k = 7; k < 320; k++) {
            due("byteAt(" + k + ")", x.byteAt(k), NONE);
        }
        for (int k : Links.FAR) {
            due("byteAt(" + k + ")", x.byteAt(k), NONE);
        }
        feed(x, Bits.START + SEVEN.repeat(37));
        due("byteAt(258), full", x.byteAt(258), 7);
        due("byteAt(259), full", x.byteAt(259), NONE);
        for (int k : Links.FAR) {
            due("byteAt(" + k + "), full", x.byteAt(k), NONE);
        }
        feed(x, Bits.START + ONE + Bits.TAIL);
        due("byteAt(6), behind a full one", x.byteAt(6), 1);
        due("byteAt(7), behind a full one", x.byteAt(7), NONE);
        due("byteAt(258), behind a full one", x.byteAt(258), NONE);
    }
}
