import java.lang.reflect.Field;
import java.lang.reflect.Modifier;
import java.util.Collections;
import java.util.IdentityHashMap;
import java.util.Set;

/** The first section's 512 calls: runs of that many hold to the last call, and make no memory on the way. */
public final class LongRunTest {
    private static final int NONE = CodeBlocks.NONE;
    private static final int CALLS = 512;
    private static final int KINDS = 10;

    private static final Checks CHECKS = new Checks();

    public static void main(String[] args) throws IllegalAccessException {
        CHECKS.sentence("What it is", "An object is used for at most 512 calls after it has been made");
        takesAlone();
        mostBeginnings();
        mostBlocks();
        noiseAndThenStart();
        startAnywhere();
        putsAlone();
        putsAndSends();
        turnsAlone();
        refusedCallsLeaveNothing();
        for (int kind = 0; kind < KINDS; kind++) {
            lastCall(kind);
        }
        madeOnce();
        objectsAreApart();
        laterCallsThrowNothing();
        CHECKS.end();
    }

    private static void due(String call, long got, long want) {
        CHECKS.due(call, got, want);
    }

    /** As many of the bits, over and over, as 64 a call make. */
    private static String repeated(String bits, int takes) {
        return bits.repeat(1 + takes * 64 / bits.length()).substring(0, takes * 64);
    }

    private static String full() {
        StringBuilder bits = new StringBuilder(Bits.START);
        for (int block = 0; block < 37; block++) {
            bits.append(Bits.flip(Bits.block(block, 1, 2, 3, 4, 5, 255 - block), block));
        }
        return bits + Bits.TAIL;
    }

    private static void takesAlone() {
        String stream = repeated(full(), CALLS);
        CodeBlocks x = Links.searching(true);
        PlainLink plain = new PlainLink();
        plain.turn(true);
        plain.mending(true);
        // Two calls were made, and one is to be left for each of the eight last looks.
        for (int n = 0; n < CALLS - 10; n++) {
            long w = Bits.number(stream.substring(64 * n, 64 * n + 64));
            due("take " + n + " of one long stream", x.take(64, w), plain.take(64, w));
        }
        for (int what = 0; what < 5; what++) {
            due("one long stream: count(" + what + ")", x.count(what), plain.count(what));
        }
        due("one long stream: state()", x.state(), plain.state());
        due("one long stream: size()", x.size(), 259);
        due("one long stream: byteAt(258)", x.byteAt(258), 255 - 36);
    }

    private static void mostBeginnings() {
        String stream = repeated(Bits.flip(Bits.START, 5) + Bits.TAIL, CALLS);
        CodeBlocks x = Links.searching(true);
        int ended = 0;
        for (int n = 0; n < 505; n++) {
            ended += x.take(64, Bits.number(stream.substring(64 * n, 64 * n + 64)));
        }
        due("empty ones alone: ended", ended, 404);
        CHECKS.dueCounts("empty ones alone", x, 404, 404, 0, 0, 404);
    }

    private static void mostBlocks() {
        String one = Bits.START + Bits.flip(Links.SEVEN, 9).repeat(37);
        String stream = repeated(one, CALLS);
        CodeBlocks x = Links.searching(true);
        int ended = 0;
        for (int n = 0; n < 505; n++) {
            ended += x.take(64, Bits.number(stream.substring(64 * n, 64 * n + 64)));
        }
        int blocks = 505 * 64 / one.length() * 37 + (505 * 64 % one.length() - 16) / 64;
        due("full ones without TAIL: ended", ended, 505 * 64 / one.length());
        CHECKS.dueCounts("full ones without TAIL", x, ended + 1, ended, blocks, blocks, 0);
    }

    private static void noiseAndThenStart() {
        for (long noise : new long[] {0L, -1L, 0x5555555555555555L}) {
            CodeBlocks x = Links.searching(false);
            for (int n = 0; n < CALLS - 6; n++) {
                x.take(64, noise);
            }
            due("START behind much noise", x.take(16, 0xEB90L), 0);
            due("a block behind much noise", x.take(64, Bits.number(Links.SEVEN)), 0);
            due("TAIL behind much noise", x.take(64, Bits.number(Bits.TAIL)), 1);
            due("the 512th call", x.byteAt(6), 7);
        }
    }

    /** START lies across the border of two calls' bits, however many bits it searched before. */
    private static void startAnywhere() {
        for (int before = 0; before <= CALLS - 6; before++) {
            CodeBlocks x = Links.searching(false);
            x.take(56, 0L);
            for (int n = 0; n < before; n++) {
                x.take(64, 0L);
            }
            x.take(16, 0xEB90L);
            due("START behind " + (56 + 64 * before) + " bits of 0", x.state(), 2);
        }
    }

    private static void putsAlone() {
        CodeBlocks x = new CodeBlocks();
        for (int n = 1; n <= CALLS; n++) {
            due("put " + n + " of 512", x.put(n), n <= 259 ? n : NONE);
        }
    }

    private static void putsAndSends() {
        CodeBlocks x = new CodeBlocks();
        for (int n = 0; n < CALLS / 4; n++) {
            due("put of turn " + n, x.put(n), 1);
            due("send of turn " + n, x.send(), 18);
            due("sent of turn " + n, x.sent(2), n & 255);
            due("second send of turn " + n, x.send(), NONE);
        }
        x = new CodeBlocks();
        for (int bytes : new int[] {259, 249}) {
            for (int n = 1; n <= bytes; n++) {
                due("put " + n + " of " + bytes, x.put(n), n);
            }
            due("send() of " + bytes, x.send(), 10 + 8 * ((bytes + 6) / 7));
        }
        due("the 511th call", x.sent(9), Bits.number(Bits.block(1, 2, 3, 4, 5, 6, 7)) & 255);
        due("the 512th call", x.sent(298), NONE);
    }

    private static void turnsAlone() {
        CodeBlocks x = new CodeBlocks();
        for (int n = 0; n < CALLS; n++) {
            boolean on = n % 4 < 2;
            CHECKS.due("turn " + n, x.turn(on), n % 2 == 0);
        }
    }

    private static void refusedCallsLeaveNothing() {
        CodeBlocks x = Links.searching(false);
        for (int n = 0; n < 83; n++) {
            due("take of 65, refused", x.take(65 + n, -1L), NONE);
            due("take of 0, refused", x.take(-n, -1L), NONE);
            due("count, refused", x.count(5 + n), NONE);
            due("byteAt, refused", x.byteAt(n), NONE);
            due("sent, refused", x.sent(n), NONE);
            due("send, refused", x.send(), NONE);
        }
        due("behind 500 calls: put", x.put(1), 1);
        due("behind 500 calls: send", x.send(), 18);
        due("behind 500 calls: take of START", x.take(16, 0xEB90L), 0);
        due("behind 500 calls: take of a block", x.take(64, Bits.number(Links.SEVEN)), 0);
        due("behind 500 calls: take of TAIL", x.take(64, Bits.number(Bits.TAIL)), 1);
        due("behind 500 calls: size", x.size(), 7);
    }

    /** An object behind 511 calls: it searches, has received SEVEN, sent one byte and has one to send. */
    private static CodeBlocks behind511() {
        CodeBlocks x = Links.searching(true);
        x.put(3);
        x.send();
        x.put(4);
        Links.feed(x, Bits.START);
        Links.feed(x, Links.SEVEN);
        Links.feed(x, Bits.TAIL);
        for (int n = 8; n < CALLS - 1; n++) {
            x.take(64, 0L);
        }
        return x;
    }

    private static void lastCall(int kind) {
        CodeBlocks x = behind511();
        switch (kind) {
            case 0 -> CHECKS.due("turn as the 512th call", x.turn(true), false);
            case 1 -> CHECKS.due("turn(false) as the 512th call", x.turn(false), true);
            case 2 -> due("take as the 512th call", x.take(16, 0xEB90L), 0);
            case 3 -> due("state as the 512th call", x.state(), 1);
            case 4 -> due("count as the 512th call", x.count(0), 1);
            case 5 -> due("size as the 512th call", x.size(), 7);
            case 6 -> due("byteAt as the 512th call", x.byteAt(6), 7);
            case 7 -> due("put as the 512th call", x.put(5), 2);
            case 8 -> due("send as the 512th call", x.send(), 18);
            default -> due("sent as the 512th call", x.sent(2), 3);
        }
    }

    // Terms: memory

    private static void madeOnce() throws IllegalAccessException {
        CHECKS.sentence("Terms", "All memory is its own, made once");
        CodeBlocks x = new CodeBlocks();
        Set<Object> before = held(x);
        x.turn(true);
        x.mending(true);
        for (int n = 0; n < 259; n++) {
            x.put(n);
        }
        x.send();
        Links.feed(x, full() + full() + full());
        x.put(1);
        x.send();
        Set<Object> after = held(x);
        due("how many objects it holds", after.size(), before.size());
        CHECKS.due("they are those that it was made with", before.containsAll(after), true);
        Set<Object> others = held(new CodeBlocks());
        others.retainAll(after);
        due("how many of them another object holds too", others.size(), 0);
    }

    /** The arrays and objects in its fields, each by itself. */
    private static Set<Object> held(CodeBlocks x) throws IllegalAccessException {
        Set<Object> all = Collections.newSetFromMap(new IdentityHashMap<>());
        for (Field f : CodeBlocks.class.getDeclaredFields()) {
            if (!Modifier.isStatic(f.getModifiers()) && !f.getType().isPrimitive()) {
                f.setAccessible(true);
                all.add(f.get(x));
            }
        }
        return all;
    }

    private static void objectsAreApart() {
        CodeBlocks a = Links.searching(true);
        CodeBlocks b = new CodeBlocks();
        Links.feed(a, Bits.flip(Bits.START, 1) + Bits.flip(Links.SEVEN, 1) + Bits.TAIL);
        a.put(1);
        a.send();
        a.put(2);
        due("another object: state()", b.state(), 0);
        CHECKS.dueReceived("another object", b);
        CHECKS.dueCounts("another object", b, 0, 0, 0, 0, 0);
        due("another object: sent(0)", b.sent(0), NONE);
        due("another object: send()", b.send(), NONE);
        b.turn(true);
        Links.feed(b, Bits.flip(Bits.START, 1));
        due("another object: mending", b.state(), 1);
    }

    // LANGUAGE.md

    /** What later calls answer is free, but no call may ever throw: a throw ends this test with exit code 1. */
    private static void laterCallsThrowNothing() {
        CHECKS.sentence("LANGUAGE.md, rule 7", "No call may ever throw by itself");
        CodeBlocks x = Links.searching(true);
        String stream = full();
        int calls = 0;
        for (int n = 0; n < 2000; n++) {
            int from = n * 61 % (stream.length() - 64);
            x.take(64, Bits.number(stream.substring(from, from + 64)));
            x.take(n, -1L);
            x.put(n);
            x.sent(n);
            x.byteAt(n);
            x.count(n);
            if (n % 500 == 499) {
                x.send();
                x.turn(n % 1000 == 499);
            }
            calls += 6;
        }
        for (int k : Links.FAR) {
            x.take(k, k);
            x.put(k);
            x.sent(k);
            x.byteAt(k);
            x.count(k);
            calls += 5;
        }
        CHECKS.due("many calls came back", calls > CALLS, true);
    }
}
