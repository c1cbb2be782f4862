import java.util.Random;
import java.util.zip.Deflater;

/** What a run of calls is made of, drawn with a seed: the same seed draws the same. */
final class Chance {
    private static final String[] CLASSES = {"aA", "aA", "aB", "bA", "bB", "bC", "cA", "cB", "dH"};
    private static final int[] WILD = {
        -1, -2, 4, 5, 6, 7, 8, 31, 32, 33, 239, 240, 255, 256, 65535, 1 << 24,
        Integer.MAX_VALUE, Integer.MIN_VALUE, Integer.MIN_VALUE + 1
    };

    private final Random random;
    /** Two of three runs are calm: what is odd is rarer in them, so that more goes well. */
    private final boolean calm;

    Chance(long seed) {
        random = new Random(seed);
        calm = seed % 3 != 0;
    }

    int below(int n) {
        return random.nextInt(n);
    }

    boolean oneIn(int n) {
        return random.nextInt(n) == 0;
    }

    boolean seldom() {
        return oneIn(calm ? 150 : 20);
    }

    int of(int... row) {
        return row[below(row.length)];
    }

    String of(String... row) {
        return row[below(row.length)];
    }

    long number() {
        return random.nextLong();
    }

    /** Mostly below n, sometimes at or beyond what there can be. */
    int wild(int n) {
        return seldom() ? of(WILD) : below(n);
    }

    String className() {
        return oneIn(12) ? "" + (char) ('a' + below(4)) + (char) ('A' + below(8)) : of(CLASSES);
    }

    private String prefix() {
        return oneIn(5) ? of("2", "3") : "";
    }

    String classEntryName(String self) {
        return prefix() + (seldom() ? className() : self);
    }

    String listName() {
        return prefix() + "S" + className();
    }

    int entryName() {
        switch (below(8)) {
            case 0: return below(1 << 30) * (oneIn(2) ? 1 : -1);
            case 1: return House.name("M");
            case 2: case 3: return House.name(listName().replaceAll("^[23]", ""));
            default: return House.name(classEntryName(className()));
        }
    }

    /** A class file, now and then one that is none. */
    int[] classFile(String self) {
        int flags = oneIn(3) ? of(0, 0, 0, 4, 4, 2, 3, 6, 7) : of(1, 1, 5);
        String likely = oneIn(2) && (flags & House.INTERFACE) == 0 ? className() : "aA";
        String upper = self.equals("aA") != seldom() ? "" : likely;
        String[] faces = new String[oneIn(3) ? below(3) : 0];
        for (int i = 0; i < faces.length; i++) {
            faces[i] = className();
        }
        int[] file = House.file(seldom() ? below(6) : 1 + below(3), flags, self, upper, faces);
        return seldom() ? damaged(file) : file;
    }

    private int[] damaged(int[] row) {
        int[] other = java.util.Arrays.copyOf(row, row.length + below(4) - 2);
        if (oneIn(2)) {
            other[below(other.length)] ^= 1 << below(8);
        }
        return other;
    }

    private String some(String letters, int most) {
        StringBuilder text = new StringBuilder();
        for (int n = below(most + 1); n > 0; n--) {
            text.append(letters.charAt(below(letters.length())));
        }
        return text.toString();
    }

    /** Mostly a manifest: each capital comes once, unless chance will have it otherwise. */
    String manifest() {
        StringBuilder text = new StringBuilder();
        int first = below(5);
        for (int i = 0; i < 1 + below(3); i++) {
            int kind = seldom() ? 5 : (first + i) % 5;
            text.append(manifestLine(kind)).append(seldom() ? "" : "\n");
        }
        return text.toString();
    }

    private String manifestLine(int kind) {
        String more = oneIn(4) ? "\n " : "";
        switch (kind) {
            case 0: case 4: return (kind == 0 ? "P" : of("B", "C", "D")) + ":"
                    + some("0123", 2) + more + some("0123", 3);
            case 1: return "Z:" + some("abcd", 2) + more + some("abcd", 2);
            case 2: return seldom() ? "V:" + some("Y ", 2) : "V:" + more + "Y";
            case 3: return of("A", "Q", "Y") + ":" + some(" ~x:", 6) + more + some("P: ", 7);
            default: return some("PZVY: a0\t", 9);
        }
    }

    String list() {
        StringBuilder text = new StringBuilder();
        for (int n = below(6); n > 0; n--) {
            text.append(listLine()).append(n > 1 || oneIn(2) ? "\n" : "");
        }
        return text.toString();
    }

    private String listLine() {
        switch (below(14)) {
            case 0: return some("# ", 4);
            case 1: return some(" ", 2) + className() + some(" ", 2) + "#" + some("aA# ", 3);
            case 2: return oneIn(3) ? some("abAB #", 5) : " " + className();
            default: return className();
        }
    }

    /** A text over few bytes, so that much of it comes again. */
    int[] text(int most) {
        int few = of(1, 2, 4, 30, 256);
        int[] row = new int[below(most + 1)];
        for (int i = 0; i < row.length; i++) {
            boolean again = i > 3 && oneIn(2);
            row[i] = again ? row[i - 1 - below(3)] : below(few) + (few < 256 ? 'a' : 0);
        }
        return row;
    }

    /** The row packed for method 8, in one of several ways. */
    int[] packed(int[] row) {
        StringBuilder text = new StringBuilder();
        for (int b : row) {
            text.append((char) b);
        }
        switch (below(5)) {
            case 0: return new Bits().stored(true, text.toString()).bytes();
            case 1: return new Bits().block(true, 1).letters(text.toString()).letter(256).bytes();
            case 2: return inTwoBlocks(text.toString(), below(row.length + 1)).bytes();
            default: return deflated(row);
        }
    }

    private Bits inTwoBlocks(String text, int middle) {
        Bits bits = new Bits();
        if (oneIn(2)) {
            bits.stored(false, text.substring(0, middle));
        } else {
            bits.block(false, 1).letters(text.substring(0, middle)).letter(256);
        }
        return bits.stored(true, text.substring(middle));
    }

    private int[] deflated(int[] row) {
        byte[] raw = new byte[row.length];
        for (int i = 0; i < raw.length; i++) {
            raw[i] = (byte) row[i];
        }
        Deflater deflater = new Deflater(below(10), true);
        deflater.setStrategy(of(Deflater.DEFAULT_STRATEGY, Deflater.FILTERED,
                Deflater.HUFFMAN_ONLY));
        deflater.setInput(raw);
        deflater.finish();
        byte[] room = new byte[2 * raw.length + 100];
        int[] packed = new int[deflater.deflate(room)];
        deflater.end();
        for (int i = 0; i < packed.length; i++) {
            packed[i] = room[i] & 255;
        }
        return packed;
    }
}
