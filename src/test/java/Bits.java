/** Texts of the characters 0 and 1 as bits, the first one first; written apart from the class on purpose. */
final class Bits {
    static final String START = "1110101110010000";
    static final String TAIL = ofBytes(197, 197, 197, 197, 197, 197, 197, 121);
    private static final String DIVISOR = "11000101";

    private Bits() {
    }

    static String ofBytes(int... bytes) {
        StringBuilder text = new StringBuilder();
        for (int b : bytes) {
            text.append(ofNumber(b & 255, 8));
        }
        return text.toString();
    }

    static String ofNumber(long number, int length) {
        StringBuilder text = new StringBuilder();
        for (int i = length - 1; i >= 0; i--) {
            text.append((number >> i & 1L) == 1L ? '1' : '0');
        }
        return text.toString();
    }

    /** The number of at most 64 bits. */
    static long number(String bits) {
        return bits.isEmpty() ? 0L : Long.parseUnsignedLong(bits, 2);
    }

    static String flip(String bits, int... places) {
        StringBuilder text = new StringBuilder(bits);
        for (int place : places) {
            text.setCharAt(place, text.charAt(place) == '1' ? '0' : '1');
        }
        return text.toString();
    }

    static String flipAll(String bits) {
        return bits.replace('1', 'x').replace('0', '1').replace('x', '0');
    }

    static int differences(String a, String b) {
        int n = 0;
        for (int i = 0; i < a.length(); i++) {
            n += a.charAt(i) == b.charAt(i) ? 0 : 1;
        }
        return n;
    }

    /** What school division leaves of the polynomial: seven bits. */
    static String remainder(String polynomial) {
        char[] left = polynomial.toCharArray();
        for (int i = 0; i + DIVISOR.length() <= left.length; i++) {
            if (left[i] == '1') {
                for (int j = 0; j < DIVISOR.length(); j++) {
                    left[i + j] = left[i + j] == DIVISOR.charAt(j) ? '0' : '1';
                }
            }
        }
        return new String(left, left.length - 7, 7);
    }

    static boolean right(String first63) {
        String turned = first63.substring(0, 56) + flipAll(first63.substring(56));
        return remainder(turned).equals("0000000");
    }

    /** The 64 bits of the block with these seven bytes. */
    static String block(int... sevenBytes) {
        String data = ofBytes(sevenBytes);
        return data + flipAll(remainder(data + "0000000")) + "0";
    }
}
