import java.util.ArrayList;
import java.util.Arrays;
import java.util.List;

/** Packed bytes of all kinds, whole and damaged, inflated as by the document's second reading. */
public final class InflateTwinTest {
    private static final Check CHECK = new Check();
    private static final int OBJECTS = 4000;
    private static final int MOST_DRAFTED = 120;
    private static final int LONGEST = 15;
    private static final int LONGEST_MARK = 7;
    private static final int[] WHOLE = new int[3];
    private static final int[] CORRUPT = new int[3];

    private final Chance chance;

    private InflateTwinTest(long seed) {
        chance = new Chance(seed);
    }

    public static void main(String[] args) {
        int objects = args.length > 0 ? Integer.parseInt(args[0]) : OBJECTS;
        int from = args.length > 1 ? Integer.parseInt(args[1]) : 0;
        for (int seed = from; seed < from + objects; seed++) {
            new InflateTwinTest(seed).fill(new Both(CHECK, "object " + seed));
        }
        String counts = Arrays.toString(WHOLE) + " whole, " + Arrays.toString(CORRUPT) + " corrupt";
        for (int kind = 0; kind < 3; kind++) {
            CHECK.due("kind " + kind + ", often enough: " + counts,
                    WHOLE[kind] > 300 && CORRUPT[kind] > 300, true);
        }
        CHECK.end();
    }

    private void fill(Both both) {
        for (int slot = 0; slot < 4; slot++) {
            int kind = chance.below(3);
            int[] packed = kind == 0 ? chance.packed(chance.text(200)) : ownCodes();
            if (kind == 2) {
                damage(packed);
            }
            int n = Math.min(packed.length + (chance.oneIn(20) ? chance.of(-1, 1) : 0),
                    MOST_DRAFTED);
            both.putAll(Arrays.copyOf(packed, Math.max(0, n)));
            both.enter('x', 8);
            both.finish(slot);
            for (int i = 4; i < 16; i++) {
                both.peek(slot, Math.max(0, n) + i);
            }
            long first = both.content(8 * slot, 0);
            both.content(8 * slot, chance.below(200));
            (first == -2 ? CORRUPT : WHOLE)[kind]++;
        }
    }

    private void damage(int[] row) {
        for (int i = chance.below(3); i >= 0 && row.length > 0; i--) {
            row[chance.below(row.length)] ^= 1 << chance.below(8);
        }
    }

    /** Splits one code again and again: a full code of so many signs, as bits for each. */
    private List<Integer> fullCode(int signs, int longest) {
        List<Integer> bits = new ArrayList<>(List.of(1, 1));
        while (bits.size() < signs) {
            int i = chance.below(bits.size());
            int b = bits.get(i);
            if (b < longest) {
                bits.set(i, b + 1);
                bits.add(b + 1);
            }
        }
        return bits;
    }

    private int[] lettersWithBits(int letters) {
        int[] row = new int[letters];
        List<Integer> bits = fullCode(2 + chance.below(12), LONGEST);
        row[256] = bits.remove(0);
        while (!bits.isEmpty()) {
            int sign = chance.oneIn(3) ? 257 + chance.below(29) : 'a' + chance.below(14);
            if (sign < letters && row[sign] == 0) {
                row[sign] = bits.remove(0);
            } else if (chance.oneIn(200)) {
                bits.remove(0);
            }
        }
        if (chance.seldom()) {
            row[chance.of(256, 'a', 'b', 0)] = chance.below(16);
        }
        return row;
    }

    private int[] distancesWithBits(int distances) {
        int[] row = new int[distances];
        int signs = chance.below(Math.min(distances, 8) + 1);
        if (signs == 1) {
            row[chance.below(distances)] = chance.seldom() ? 2 : 1;
        } else if (signs > 1) {
            List<Integer> bits = fullCode(signs, LONGEST);
            for (int i = 0; !bits.isEmpty(); i = (i + 1) % distances) {
                if (row[i] == 0 && (chance.oneIn(2) || distances < 10)) {
                    row[i] = bits.remove(0);
                }
            }
        }
        return row;
    }

    /** A block of kind 2 with codes of its own, and what they can say. */
    private int[] ownCodes() {
        int[] letters = lettersWithBits(257 + chance.below(chance.seldom() ? 32 : 30));
        int[] distances = distancesWithBits(1 + chance.below(chance.seldom() ? 32 : 30));
        Bits bits = new Bits();
        if (chance.oneIn(3)) {
            bits.stored(false, "abcabcd");
        }
        bits.block(true, 2);
        tellBits(bits, letters, distances);
        write(bits, letters, distances);
        return bits.bytes();
    }

    /** Marks one after another, each with how often it is meant, as {mark, more, bits of more}. */
    private List<int[]> marksFor(int[] row) {
        List<int[]> marks = new ArrayList<>();
        int at = 0;
        while (at < row.length) {
            int same = at;
            while (same < row.length && row[same] == row[at]) {
                same++;
            }
            int run = same - at;
            boolean again = at > 0 && row[at] == row[at - 1];
            int times = 1;
            if (row[at] == 0 && run >= 11 && !chance.oneIn(9)) {
                times = Math.min(run, 138);
                marks.add(new int[] {18, times - 11, 7});
            } else if (row[at] == 0 && run >= 3 && !chance.oneIn(3)) {
                times = Math.min(run, 10);
                marks.add(new int[] {17, times - 3, 3});
            } else if (again && run >= 3 && !chance.oneIn(3)) {
                times = Math.min(run, 6);
                marks.add(new int[] {16, times - 3, 2});
            } else {
                marks.add(new int[] {row[at], 0, 0});
            }
            at += times;
        }
        return marks;
    }

    private void tellBits(Bits bits, int[] letters, int[] distances) {
        int[] row = Arrays.copyOf(letters, letters.length + distances.length);
        System.arraycopy(distances, 0, row, letters.length, distances.length);
        List<int[]> marks = marksFor(row);
        if (chance.seldom()) {
            marks.add(chance.below(marks.size()), new int[] {16, 3, 2});
        }
        int[] markBits = new int[19];
        int used = (int) marks.stream().mapToInt(m -> m[0]).distinct().count();
        List<Integer> code = fullCode(Math.max(2, used), LONGEST_MARK);
        for (int[] mark : marks) {
            if (markBits[mark[0]] == 0) {
                markBits[mark[0]] = code.remove(0);
            }
        }
        bits.head(letters.length, distances.length, markBits);
        String[] codes = Bits.codesOf(markBits);
        for (int[] mark : marks) {
            bits.code(codes[mark[0]]).number(mark[1], mark[2]);
        }
    }

    private void write(Bits bits, int[] letters, int[] distances) {
        String[] letterCodes = Bits.codesOf(letters);
        String[] distanceCodes = Bits.codesOf(distances);
        int said = 0;
        for (int n = chance.below(300); n > 0; n--) {
            int s = chance.oneIn(4) ? 257 + chance.below(29) : 'a' + chance.below(14);
            int d = chance.below(chance.of(4, 10, 30));
            boolean far = s > 256 && (d >= distances.length || distanceCodes[d] == null);
            boolean back = s > 256 && !chance.seldom() && (d > 13 || 1 << d / 2 > said);
            if (s >= letters.length || letterCodes[s] == null || far || back) {
                continue;
            }
            bits.code(letterCodes[s]);
            if (s > 256) {
                int e = s > 264 && s < 285 ? (s - 261) / 4 : 0;
                bits.number(chance.below(1 << e), e).code(distanceCodes[d]);
                e = d < 4 ? 0 : d / 2 - 1;
                bits.number(chance.below(1 << e), e);
                said += 3;
            }
            said++;
        }
        if (letterCodes[256] != null && !chance.seldom()) {
            bits.code(letterCodes[256]);
        }
    }
}
