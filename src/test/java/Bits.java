/** Writes bits as the inflater reads them. */
final class Bits {
    static final int[] MARK_ORDER = {
        16, 17, 18, 0, 8, 7, 9, 6, 10, 5, 11, 4, 12, 3, 13, 2, 14, 1, 15
    };

    private final StringBuilder text = new StringBuilder();

    Bits() {
    }

    Bits(Bits other) {
        text.append(other.text);
    }

    /** A number with its lowest bit first. */
    Bits number(int v, int bits) {
        for (int i = 0; i < bits; i++) {
            text.append(v >>> i & 1);
        }
        return this;
    }

    /** A code with its highest bit first, as text of 0 and 1. */
    Bits code(String bits) {
        text.append(bits);
        return this;
    }

    Bits block(boolean last, int kind) {
        return number(last ? 1 : 0, 1).number(kind, 2);
    }

    Bits toByte() {
        while (text.length() % 8 != 0) {
            text.append(0);
        }
        return this;
    }

    /** A block of kind 0. */
    Bits stored(boolean last, String bytes) {
        block(last, 0).toByte().number(bytes.length(), 16).number(65535 - bytes.length(), 16);
        for (int i = 0; i < bytes.length(); i++) {
            number(bytes.charAt(i), 8);
        }
        return this;
    }

    /** A letter of a block of kind 1. */
    Bits letter(int s) {
        return s < 144 ? high(48 + s, 8) : s < 256 ? high(400 + s - 144, 9)
                : s < 280 ? high(s - 256, 7) : high(192 + s - 280, 8);
    }

    Bits letters(String bytes) {
        for (int i = 0; i < bytes.length(); i++) {
            letter(bytes.charAt(i));
        }
        return this;
    }

    /** A distance of a block of kind 1. */
    Bits distance(int d) {
        return high(d, 5);
    }

    Bits high(int v, int bits) {
        for (int i = bits - 1; i >= 0; i--) {
            text.append(v >>> i & 1);
        }
        return this;
    }

    /** The head of a block of kind 2: markBits says how many bits each of the 19 marks has. */
    Bits head(int letters, int distances, int... markBits) {
        number(letters - 257, 5).number(distances - 1, 5).number(15, 4);
        for (int mark : MARK_ORDER) {
            number(mark < markBits.length ? markBits[mark] : 0, 3);
        }
        return this;
    }

    /** A block's head that gives each letter and each distance the bits of its row. */
    Bits codes(boolean last, int[] letterBits, int[] distanceBits) {
        int[] markBits = new int[19];
        java.util.Arrays.fill(markBits, 0, 16, 5);
        markBits[18] = 1;
        block(last, 2).head(letterBits.length, distanceBits.length, markBits);
        int[] row = java.util.Arrays.copyOf(letterBits, letterBits.length + distanceBits.length);
        System.arraycopy(distanceBits, 0, row, letterBits.length, distanceBits.length);
        for (int i = 0; i < row.length; i++) {
            int zeros = 0;
            while (i + zeros < row.length && row[i + zeros] == 0 && zeros < 138) {
                zeros++;
            }
            if (zeros >= 11) {
                code("0").number(zeros - 11, 7);
                i += zeros - 1;
            } else {
                high(16 + row[i], 5);
            }
        }
        return this;
    }

    /** The code of each sign as text of 0 and 1. */
    static String[] codesOf(int[] bits) {
        String[] codes = new String[bits.length];
        int next = 0;
        for (int length = 1; length <= 15; length++) {
            next <<= 1;
            for (int i = 0; i < bits.length; i++) {
                if (bits[i] == length) {
                    codes[i] = new Bits().high(next, length).text.toString();
                    next++;
                }
            }
        }
        return codes;
    }

    int[] bytes() {
        int n = (text.length() + 7) / 8;
        int[] row = new int[n];
        for (int i = 0; i < text.length(); i++) {
            row[i / 8] |= text.charAt(i) - '0' << i % 8;
        }
        return row;
    }
}
