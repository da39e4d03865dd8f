import java.util.ArrayList;
import java.util.List;

/** The document once more, over texts and lists and by trying all single bits: slow, but plain to read. */
final class PlainLink {
    private int state = 0;
    private boolean mending = false;
    private StringBuilder since = new StringBuilder();
    private int blocks = 0;
    private List<Integer> row = new ArrayList<>();
    private List<Integer> received = new ArrayList<>();
    private final int[] counts = new int[5];
    private final List<Integer> waiting = new ArrayList<>();
    private List<Integer> sent = new ArrayList<>();

    boolean turn(boolean on) {
        boolean isOn = state != 0;
        if (isOn == on) {
            return false;
        }
        state = on ? 1 : 0;
        since = new StringBuilder();
        row = new ArrayList<>();
        return true;
    }

    void mending(boolean is) {
        mending = is;
    }

    int take(int n, long w) {
        if (state == 0 || n < 1 || n > 64) {
            return -1;
        }
        int ended = 0;
        String all = Bits.ofNumber(w, 64);
        for (char bit : all.substring(64 - n).toCharArray()) {
            since.append(bit);
            if (state == 1) {
                search();
            } else if (since.length() == 64) {
                ended += decode(since.toString().substring(0, 63)) ? 1 : 0;
            }
        }
        return ended;
    }

    private void search() {
        if (since.length() < 16) {
            return;
        }
        int wrong = Bits.differences(since.substring(since.length() - 16), Bits.START);
        if (wrong > (mending ? 1 : 0)) {
            return;
        }
        counts[0]++;
        counts[4] += wrong;
        state = 2;
        since = new StringBuilder();
        blocks = 0;
        row = new ArrayList<>();
    }

    private boolean decode(String first63) {
        since = new StringBuilder();
        blocks++;
        String mended = Bits.right(first63) ? first63 : mending ? mended(first63) : null;
        if (mended != null) {
            counts[2]++;
            counts[3] += mended.equals(first63) ? 0 : 1;
            for (int i = 0; i < 56; i += 8) {
                row.add(Integer.parseInt(mended.substring(i, i + 8), 2));
            }
        }
        if (mended != null && blocks < 37) {
            return false;
        }
        counts[1]++;
        if (!row.isEmpty()) {
            received = row;
        }
        state = 1;
        return true;
    }

    private static String mended(String first63) {
        for (int i = 0; i < 63; i++) {
            String tried = Bits.flip(first63, i);
            if (Bits.right(tried)) {
                return tried;
            }
        }
        return null;
    }

    int state() {
        return state;
    }

    int count(int what) {
        return what < 0 || what > 4 ? -1 : counts[what];
    }

    int size() {
        return received.size();
    }

    int byteAt(int k) {
        return at(received, k);
    }

    int put(int b) {
        if (waiting.size() == 259) {
            return -1;
        }
        waiting.add(b & 255);
        return waiting.size();
    }

    int send() {
        if (waiting.isEmpty()) {
            return -1;
        }
        while (waiting.size() % 7 != 0) {
            waiting.add(85);
        }
        StringBuilder bits = new StringBuilder(Bits.START);
        for (int i = 0; i < waiting.size(); i += 7) {
            int[] seven = waiting.subList(i, i + 7).stream().mapToInt(Integer::intValue).toArray();
            bits.append(Bits.block(seven));
        }
        bits.append(Bits.TAIL);
        sent = new ArrayList<>();
        for (int i = 0; i < bits.length(); i += 8) {
            sent.add(Integer.parseInt(bits.substring(i, i + 8), 2));
        }
        waiting.clear();
        return sent.size();
    }

    int sent(int k) {
        return at(sent, k);
    }

    private static int at(List<Integer> list, int k) {
        return k < 0 || k >= list.size() ? -1 : list.get(k);
    }
}
