/** Long runs of calls, always the same ones, on the class and on PlainLink: every answer must be alike. */
public final class ModelTest {
    private static final int RUNS = 600;
    private static final int CALLS = 512;

    private final Checks checks = new Checks();
    private final int run;
    private final CodeBlocks link = new CodeBlocks();
    private final PlainLink plain = new PlainLink();
    /** The bits that are still to come, before the noise. */
    private final StringBuilder stream = new StringBuilder();
    private long seed;
    private int calls = 0;

    private ModelTest(int run) {
        this.run = run;
        this.seed = run * 7919L + 17L;
    }

    public static void main(String[] args) {
        Checks all = new Checks();
        long[] seen = new long[5];
        for (int run = 0; run < RUNS && all.wrong() < 10; run++) {
            ModelTest test = new ModelTest(run);
            test.calls();
            all.due("run " + run + ": wrong answers", test.checks.wrong(), 0L);
            for (int what = 0; what < seen.length; what++) {
                seen[what] += test.plain.count(what);
            }
        }
        for (int what = 0; what < seen.length; what++) {
            all.due("count " + what + " is seen at work", seen[what] > RUNS / 4, true);
        }
        all.end();
    }

    private int pick(int below) {
        seed = seed * 6364136223846793005L + 1442695040888963407L;
        return (int) ((seed >>> 33) % below);
    }

    private void calls() {
        while (calls < CALLS && checks.wrong() == 0) {
            int kind = pick(100);
            if (kind < 70) {
                take();
            } else if (kind < 78) {
                look();
            } else if (kind < 92) {
                sender();
            } else if (kind < 95) {
                boolean is = pick(3) > 0;
                link.mending(is);
                plain.mending(is);
                calls++;
            } else {
                // Mostly on, so that long transmissions end too.
                boolean on = pick(8) > 0;
                due("turn " + on, link.turn(on) ? 1 : 0, plain.turn(on) ? 1 : 0);
            }
        }
    }

    private void take() {
        int n = pick(40) == 0 ? pick(200) - 60 : pick(3) == 0 ? 1 + pick(64) : 64;
        if (stream.length() < 64) {
            addTransmission();
        }
        int length = Math.max(1, Math.min(n, 64));
        String bits = stream.substring(0, length);
        stream.delete(0, length);
        // The bits above the lowest n are anything.
        long above = length == 64 ? 0L : (((long) pick(1 << 30) << 34) ^ pick(1 << 30)) << length;
        long w = above | Bits.number(bits);
        due("take(" + n + ", " + w + ")", link.take(n, w), plain.take(n, w));
        due("state()", link.state(), plain.state());
    }

    /** Noise, START, blocks and mostly TAIL, with a wrong bit here and there. */
    private void addTransmission() {
        StringBuilder bits = new StringBuilder();
        bits.append(Bits.ofNumber(pick(1 << 30), pick(30)));
        bits.append(pick(4) == 0 ? Bits.flip(Bits.START, pick(16)) : Bits.START);
        int blocks = pick(6) == 0 ? 35 + pick(4) : pick(7);
        for (int i = 0; i < blocks; i++) {
            bits.append(Bits.block(pick(256), pick(256), pick(256), pick(256), pick(256), pick(256), pick(256)));
        }
        if (pick(8) > 0) {
            bits.append(Bits.TAIL);
        }
        int wrong = pick(3) == 0 ? pick(1 + bits.length() / 50) : 0;
        for (int i = 0; i < wrong; i++) {
            int place = pick(bits.length());
            bits.replace(0, bits.length(), Bits.flip(bits.toString(), place));
        }
        stream.append(bits);
        if (stream.length() < 64) {
            stream.append(Bits.ofNumber(pick(1 << 30), 64));
        }
    }

    private void look() {
        due("size()", link.size(), plain.size());
        int k = pick(270) - 5;
        due("byteAt(" + k + ")", link.byteAt(k), plain.byteAt(k));
        int inside = pick(plain.size() + 1);
        due("byteAt(" + inside + ")", link.byteAt(inside), plain.byteAt(inside));
        int what = pick(8) - 1;
        due("count(" + what + ")", link.count(what), plain.count(what));
    }

    private void sender() {
        int puts = pick(9);
        for (int i = 0; i < puts; i++) {
            int b = pick(1 << 30) - (1 << 29);
            due("put(" + b + ")", link.put(b), plain.put(b));
        }
        if (pick(4) == 0) {
            due("send()", link.send(), plain.send());
        }
        int k = pick(pick(2) == 0 ? 30 : 320) - 2;
        due("sent(" + k + ")", link.sent(k), plain.sent(k));
    }

    private void due(String call, long got, long want) {
        calls++;
        if (calls <= CALLS) {
            checks.due("run " + run + ", call " + calls + ": " + call, got, want);
        }
    }
}
