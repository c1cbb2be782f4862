import java.util.Arrays;
import java.util.Random;
import java.util.zip.DataFormatException;
import java.util.zip.Deflater;
import java.util.zip.Inflater;

/** What is inflated and what is corrupt, seen through enter (promise 3) and content (15). */
public final class InflateTest {
    private static final Check CHECK = new Check();
    private static final String CORRUPT = Packed.CORRUPT;

    public static void main(String[] args) {
        storedBlocks();
        fixedBlocks();
        lengths();
        distances();
        ends();
        twoHundred();
        codesOfTheirOwn();
        marks();
        marksThatRepeat();
        marksOneByOne();
        fullCodes();
        distanceCodes();
        longCodes();
        noCodes();
        bitsThatRunOut();
        asTheLibraryDeflates();
        asTheLibraryInflates();
        CHECK.end();
    }

    private static void due(String what, Bits bits, String want) {
        due(what, bits.bytes(), want);
    }

    private static void due(String what, int[] packed, String want) {
        Packed.due(CHECK, what, packed, want);
    }

    private static Bits bits() {
        return new Bits();
    }

    private static String times(String text, int n) {
        return text.repeat(n);
    }

    private static void storedBlocks() {
        due("stored", bits().stored(true, "hello"), "hello");
        due("stored, empty", bits().stored(true, ""), "");
        due("stored twice", bits().stored(false, "ab").stored(true, "\377\0"), "ab\377\0");
        due("stored, the rest of the byte is passed",
                bits().block(true, 0).number(31, 5).number(1, 16).number(65534, 16).number('q', 8),
                "q");
        due("stored behind a fixed one",
                bits().block(false, 1).letters("abc").letter(256).stored(true, "de"), "abcde");
        due("stored, wrong second number",
                bits().block(true, 0).toByte().number(1, 16).number(65533, 16).number('q', 8),
                CORRUPT);
        due("stored, the number twice",
                bits().block(true, 0).toByte().number(1, 16).number(1, 16).number('q', 8), CORRUPT);
        due("stored, a byte too few",
                bits().block(true, 0).toByte().number(2, 16).number(65533, 16).number('q', 8),
                CORRUPT);
        due("stored, a byte too many",
                bits().block(true, 0).toByte().number(0, 16).number(65535, 16).number('q', 8),
                CORRUPT);
        due("stored, no numbers", bits().block(true, 0), CORRUPT);
        due("stored, one number", bits().block(true, 0).toByte().number(0, 16), CORRUPT);
        due("stored, most bytes",
                bits().block(true, 0).toByte().number(65535, 16).number(0, 16), CORRUPT);
        due("stored, one of many bytes too few", bits().block(true, 0).toByte().number(9, 16)
                .number(65526, 16).code("01".repeat(32)), CORRUPT);
        for (int n = 0; n < 9; n++) {
            due("stored behind " + n, bits().block(false, 1).letters("\220".repeat(n)).letter(256)
                    .stored(true, "xy"), "\220".repeat(n) + "xy");
        }
        due("kind 3", bits().block(true, 3), CORRUPT);
        due("kind 3, not the last", bits().block(false, 3).stored(true, "a"), CORRUPT);
    }

    private static void fixedBlocks() {
        due("fixed, empty", bits().block(true, 1).letter(256), "");
        due("fixed", bits().block(true, 1).letters("aZ\0\217\220\377").letter(256),
                "aZ\0\217\220\377");
        StringBuilder every = new StringBuilder();
        for (int b = 0; b < 256; b += 3) {
            every.append((char) b);
        }
        due("fixed, many bytes", bits().block(true, 1).letters(every.toString()).letter(256),
                every.toString());
        due("fixed, two blocks", bits().block(false, 1).letters("ab").letter(256)
                .block(true, 1).letter(257).distance(1).letter(256), "ababa");
        due("letter 286", bits().block(true, 1).letters("ab").letter(286).distance(0).letter(256),
                CORRUPT);
        due("letter 287", bits().block(true, 1).letters("ab").letter(287).distance(0).letter(256),
                CORRUPT);
        due("distance 30", bits().block(true, 1).letters("ab").letter(257).distance(30)
                .number(0, 13).letter(256), CORRUPT);
        due("distance 31", bits().block(true, 1).letters("ab").letter(257).distance(31)
                .number(0, 14).letter(256), CORRUPT);
    }

    private static void lengths() {
        for (int s = 257; s <= 264; s++) {
            due("length " + s, bits().block(true, 1).letter('a').letter(s).distance(0).letter(256),
                    times("a", s - 253));
        }
        int[] bases = {11, 13, 15, 17, 19, 23, 27, 31, 35, 43, 51, 59, 67, 83, 99, 115, 131, 163,
            195, 227};
        for (int i = 0; i < bases.length; i++) {
            int extra = i / 4 + 1;
            for (int more = 0; more < 1 << extra; more += (1 << extra) - 1) {
                int n = 1 + bases[i] + more;
                due("length " + (265 + i) + " and " + more, bits().block(true, 1).letter('a')
                        .letter(265 + i).number(more, extra).distance(0).letter(256),
                        n <= 200 ? times("a", n) : CORRUPT);
            }
        }
        due("length 285", bits().block(true, 1).letter('a').letter(285).distance(0).letter(256),
                CORRUPT);
        due("no bits behind a length", bits().block(true, 1).letters("a").letter(276), CORRUPT);
    }

    private static void distances() {
        String text = "abcdefghijklmnopqrstuvwxyz0123456789";
        for (int d = 0; d < 10; d++) {
            int extra = d < 4 ? 0 : d / 2 - 1;
            int base = d < 4 ? d + 1 : 1 + (2 + d % 2 << extra);
            for (int more = 0; more < 1 << extra; more++) {
                int from = text.length() - base - more;
                Bits packed = bits().block(true, 1).letters(text).letter(257).distance(d)
                        .number(more, extra).letter(256);
                String again = text;
                for (int i = 0; i < 3 && from >= 0; i++) {
                    again += again.charAt(from + i);
                }
                due("distance " + d + " and " + more, packed, from < 0 ? CORRUPT : again);
            }
        }
        far();
        due("copied from what is copied", bits().block(true, 1).letters("ab").letter(261)
                .distance(1).letter(256), "ababababa");
        due("a distance to the first byte", bits().block(true, 1).letters("abc").letter(257)
                .distance(2).letter(256), "abcabc");
        due("a distance before it", bits().block(true, 1).letters("abc").letter(257)
                .distance(3).letter(256), CORRUPT);
        due("a distance at the beginning", bits().block(true, 1).letter(257).distance(0)
                .letter(256), CORRUPT);
        due("back into another block", bits().stored(false, "xyz").block(true, 1).letter(257)
                .distance(2).letter(256), "xyzxyz");
    }

    private static void far() {
        String text = "0123456789" + times("-", 100) + "abcdefghij" + times("+", 60);
        for (int back = 98; back <= 180; back += 41) {
            int d = back <= 128 ? 13 : 14;
            int base = back <= 128 ? 97 : 129;
            int extra = back <= 128 ? 5 : 6;
            String again = text + text.substring(text.length() - back, text.length() - back + 5);
            due("back " + back, bits().block(false, 1).letters("0123456789-").letter(279)
                    .number(0, 4).distance(0).letter(256)
                    .stored(true, ""), "0123456789-" + times("-", 99));
            due("far back " + back, farBack(d, back - base, extra), again);
        }
    }

    /** The text of far(): its two long rows are told as one byte and copies of it. */
    private static Bits farBack(int d, int more, int extra) {
        return bits().block(true, 1).letters("0123456789-").letter(279).number(0, 4).distance(0)
                .letters("abcdefghij+").letter(275).number(7, 3).distance(0).letter('+')
                .letter(259).distance(d).number(more, extra).letter(256);
    }

    private static void ends() {
        due("nothing", new int[0], CORRUPT);
        due("no last block", bits().stored(false, "a"), CORRUPT);
        due("no end of a block", bits().block(true, 1).letters("abc"), CORRUPT);
        int[] whole = bits().block(true, 1).letters("abcdef").letter(256).bytes();
        for (int n = 0; n < whole.length; n++) {
            due("cut at " + n, Arrays.copyOf(whole, n), CORRUPT);
        }
        due("a byte more", Arrays.copyOf(whole, whole.length + 1), CORRUPT);
        due("the rest of the byte is passed",
                bits().block(true, 1).letter(256).number(63, 6), "");
        due("ends with the byte", bits().block(true, 1).letter(144).letter('a').letter('a')
                .letters("\220\220\220").letter(256).number(0, 0), "\220aa\220\220\220");
        due("behind the last block there is none",
                bits().block(true, 1).letter(256).block(true, 1).letter(256), CORRUPT);
        due("many empty blocks", manyBlocks(60), "");
        int[] exact = bits().block(true, 1).letters("abcd\220\220\220\220\220\220").letter(256).bytes();
        due("exact", exact, "abcd\220\220\220\220\220\220");
        due("exact and one", Arrays.copyOf(exact, exact.length + 1), CORRUPT);
    }

    private static Bits manyBlocks(int n) {
        Bits packed = bits();
        for (int i = 0; i < n; i++) {
            packed.block(i == n - 1, 1).letter(256);
        }
        return packed;
    }

    private static void twoHundred() {
        Bits start = bits().block(true, 1).letter('a').letter(283).number(4, 5).distance(0);
        due("200 bytes", start.letter(256), times("a", 200));
        Bits more = bits().block(true, 1).letter('a').letter(283).number(5, 5).distance(0);
        due("201 bytes by a copy", more.letter(256), CORRUPT);
        Bits one = bits().block(true, 1).letter('a').letter(283).number(4, 5).distance(0);
        due("201 bytes by a letter", one.letter('a').letter(256), CORRUPT);
        Bits stored = bits().block(false, 1).letter('a').letter(283).number(4, 5).distance(0)
                .letter(256);
        due("201 bytes by a stored block", stored.stored(true, "b"), CORRUPT);
        Bits none = bits().block(false, 1).letter('a').letter(283).number(4, 5).distance(0)
                .letter(256);
        due("200 bytes and an empty block", none.stored(true, ""), times("a", 200));
        Bits last = bits().block(false, 1).letter('a').letter(283).number(3, 5).distance(0)
                .letter(256);
        due("200 bytes by a stored block", last.stored(true, "b"), times("a", 199) + "b");
    }

    /** Marks 0, 1, 2, 18 of two bits: codes 00, 01, 10, 11. */
    private static Bits small(int letters, int distances) {
        int[] markBits = new int[19];
        markBits[0] = 2;
        markBits[1] = 2;
        markBits[2] = 2;
        markBits[18] = 2;
        return bits().block(true, 2).head(letters, distances, markBits);
    }

    /** The bits of letters: a has 1 bit, b 2 and 256 too. */
    private static Bits abAndEnd(int distances) {
        return small(257, distances).code("11").number(97 - 11, 7).code("0110")
                .code("11").number(127, 7).code("11").number(157 - 138 - 11, 7).code("10");
    }

    private static void codesOfTheirOwn() {
        due("own codes", abAndEnd(1).code("00").code("0").code("10").code("0").code("11"), "aba");
        due("own codes, a mere end", abAndEnd(1).code("00").code("11"), "");
        due("own codes, no end", abAndEnd(1).code("00").code("0"), CORRUPT);
        due("no distances, but a length", small(258, 1).code("11").number(97 - 11, 7).code("01")
                .code("11").number(127, 7).code("11").number(158 - 138 - 11, 7).code("1010")
                .code("00").code("0").code("11").code("10"), CORRUPT);
        due("one distance of one bit", small(258, 1).code("11").number(97 - 11, 7).code("01")
                .code("11").number(127, 7).code("11").number(158 - 138 - 11, 7).code("1010")
                .code("01").code("0").code("11").code("0").code("10"), "aaaa");
        due("its other bit is no code", small(258, 1).code("11").number(97 - 11, 7).code("01")
                .code("11").number(127, 7).code("11").number(158 - 138 - 11, 7).code("1010")
                .code("01").code("0").code("11").code("1").code("10").number(0, 20), CORRUPT);
        due("letters above 286", small(287, 1).code("11").number(97 - 11, 7).code("0110")
                .code("11").number(127, 7).code("11").number(157 - 138 - 11, 7).code("10")
                .code("11").number(30 - 11, 7).code("00").code("11"), CORRUPT);
        due("286 letters", small(286, 1).code("11").number(97 - 11, 7).code("0110")
                .code("11").number(127, 7).code("11").number(157 - 138 - 11, 7).code("10")
                .code("11").number(29 - 11, 7).code("00").code("0").code("11"), "a");
        due("distances above 30", abAndEnd(31).code("11").number(31 - 11, 7).code("0")
                .code("11"), CORRUPT);
        due("30 distances", abAndEnd(30).code("11").number(30 - 11, 7).code("0").code("11"), "a");
        due("letter 256 without bits", small(257, 1).code("11").number(97 - 11, 7).code("011010")
                .code("11").number(127, 7).code("11").number(157 - 138 - 12, 7).code("00")
                .code("00").code("0").code("0"), CORRUPT);
        due("letters and distances in a row", abAndEnd(12).code("11").number(1, 7)
                .code("0").code("10").code("11"), "ab");
        due("zeros from letters into distances", small(258, 14).code("11").number(97 - 11, 7)
                .code("0110").code("11").number(127, 7).code("11").number(157 - 138 - 11, 7)
                .code("10").code("11").number(15 - 11, 7).code("0").code("10").code("11"), "ab");
    }

    private static void marks() {
        int[] one = new int[19];
        one[18] = 1;
        due("one mark alone", bits().block(true, 2).head(257, 1, one).number(0, 40), CORRUPT);
        due("no marks", bits().block(true, 2).head(257, 1, new int[19]).number(0, 40), CORRUPT);
        int[] over = new int[19];
        Arrays.fill(over, 0, 3, 1);
        due("too many marks", bits().block(true, 2).head(257, 1, over).number(0, 80), CORRUPT);
        int[] few = new int[19];
        Arrays.fill(few, 0, 3, 2);
        due("too few marks", bits().block(true, 2).head(257, 1, few).number(0, 80), CORRUPT);
        due("the head cut", bits().block(true, 2).number(0, 5).number(0, 5), CORRUPT);
        due("four marks told", bits().block(true, 2).number(0, 5).number(0, 5).number(0, 4)
                .number(0, 3).number(0, 3).number(1, 3).number(1, 3).number(0, 60), CORRUPT);
        marksOfSevenBits();
    }

    /** Marks of all lengths: 18 has 1 bit, 0 2, 1 3, 2 4, 3 5, 4 6, 5 and 6 7. */
    private static void marksOfSevenBits() {
        int[] all = new int[19];
        all[18] = 1;
        all[0] = 2;
        all[1] = 3;
        all[2] = 4;
        all[3] = 5;
        all[4] = 6;
        all[5] = 7;
        all[6] = 7;
        due("marks of all lengths", bits().block(true, 2).head(257, 1, all)
                .code("0").number(97 - 11, 7).code("1101110").code("0").number(127, 7)
                .code("0").number(157 - 138 - 11, 7).code("1110").code("10")
                .code("0").code("10").code("11"), "ab");
        due("a long code", bits().block(true, 2).head(257, 1, all)
                .code("0").number(97 - 11, 7)
                .code("110").code("1110").code("11110").code("111110").code("1111110")
                .code("1111111").code("0").number(127, 7).code("0").number(153 - 138 - 11, 7)
                .code("1111111").code("10")
                .code("0").code("10").code("110").code("1110").code("11110").code("111110")
                .code("111111"), "abcdef");
    }

    /** Marks 0, 1, 16, 17 of two bits: codes 00, 01, 10, 11. */
    private static Bits repeating(int letters, int distances) {
        int[] markBits = new int[19];
        markBits[0] = 2;
        markBits[1] = 2;
        markBits[16] = 2;
        markBits[17] = 2;
        return bits().block(true, 2).head(letters, distances, markBits);
    }

    /** Nothing for n letters, by marks 17 of ten each and marks 0. */
    private static Bits nothing(Bits packed, int n) {
        for (int i = 0; i < n / 10; i++) {
            packed.code("11").number(7, 3);
        }
        for (int i = 0; i < n % 10; i++) {
            packed.code("00");
        }
        return packed;
    }

    private static void marksThatRepeat() {
        due("17", nothing(nothing(repeating(257, 1), 97).code("01"), 158).code("01").code("00")
                .code("0").code("1"), "a");
        due("17 of three", nothing(repeating(257, 1), 90).code("11").number(0, 3)
                .code("11").number(1, 3).code("01").code("11").number(7, 3).code("11").number(7, 3)
                .code(nothingText(138)).code("01").code("00").code("0").code("0").code("1"), "aa");
        due("16 at the beginning", nothing(nothing(repeating(257, 1).code("10").number(0, 2), 94)
                .code("01"), 158).code("01").code("00").code("0").code("1"), CORRUPT);
        due("16 as the one before", nothing(nothing(repeating(257, 1).code("00").code("10")
                .number(3, 2).code("10").number(0, 2), 87).code("01"), 158).code("01").code("00")
                .code("0").code("1"), "a");
        due("16 one too many", nothing(nothing(repeating(257, 3), 97).code("01"), 158)
                .code("01").code("00").code("10").number(0, 2).code("0").code("1"), CORRUPT);
        due("16 to the end", nothing(nothing(repeating(257, 4), 97).code("01"), 158)
                .code("01").code("00").code("10").number(0, 2).code("0").code("1"), "a");
        due("17 to the end", nothing(nothing(repeating(257, 4), 97).code("01"), 158)
                .code("01").code("11").number(1, 3).code("0").code("1"), "a");
        due("17 one too many", nothing(nothing(repeating(257, 3), 97).code("01"), 158)
                .code("01").code("11").number(1, 3).code("0").code("1"), CORRUPT);
        due("18 one too many", small(257, 1).code("11").number(97 - 11, 7).code("0110")
                .code("11").number(127, 7).code("11").number(20 - 11, 7).code("0"), CORRUPT);
        due("16 over from letters to distances, too many for a code",
                nothing(nothing(repeating(257, 3), 97).code("01"), 158).code("01")
                .code("10").number(0, 2).code("0").code("1"), CORRUPT);
    }

    /** Marks 0 and 8 of one bit: 256 letters of 8 bits, each told by itself. */
    private static void marksOneByOne() {
        int[] markBits = new int[19];
        markBits[0] = 1;
        markBits[8] = 1;
        due("each told by itself", bits().block(true, 2).head(257, 1, markBits).code("0")
                .code("1".repeat(256)).code("0").high('a' - 1, 8).high('z' - 1, 8).high(255, 8),
                "az");
    }

    private static String nothingText(int n) {
        StringBuilder text = new StringBuilder();
        for (int i = 0; i < n; i++) {
            text.append("00");
        }
        return text.toString();
    }

    private static void fullCodes() {
        due("letter 256 alone of one bit", small(257, 1).code("11").number(127, 7).code("11")
                .number(118 - 11, 7).code("01").code("00").code("0"), CORRUPT);
        due("letters not full", small(257, 1).code("11").number(97 - 11, 7).code("1010")
                .code("11").number(127, 7).code("11").number(157 - 138 - 11, 7).code("10")
                .code("00").code("00").code("10"), CORRUPT);
        due("letters over full", small(257, 1).code("11").number(97 - 11, 7).code("0101")
                .code("11").number(127, 7).code("11").number(157 - 138 - 11, 7).code("10")
                .code("00").code("0").code("11"), CORRUPT);
    }

    private static void distanceCodes() {
        due("no distances", abAndEnd(2).code("0000").code("10").code("11"), "b");
        due("one distance of one bit", abAndEnd(2).code("0001").code("10").code("11"), "b");
        due("one distance of two bits", abAndEnd(2).code("0010").code("10").code("11"), CORRUPT);
        due("two distances of one bit", abAndEnd(2).code("0101").code("10").code("11"), "b");
        due("two distances of two bits", abAndEnd(2).code("1010").code("10").code("11"), CORRUPT);
        due("three distances", abAndEnd(3).code("011010").code("10").code("11"), "b");
        due("a one and a two", abAndEnd(2).code("0110").code("10").code("11"), CORRUPT);
        due("three of one bit", abAndEnd(3).code("010101").code("10").code("11"), CORRUPT);
        due("four of two bits", abAndEnd(4).code("10101010").code("10").code("11"), "b");
        due("five of two bits", abAndEnd(5).code("1010101010").code("10").code("11"), CORRUPT);
    }

    /** Letters from a on with 1, 2, 3 and so on bits, the last one and the end with the most. */
    private static int[] steps(int most) {
        int[] row = new int[257];
        for (int i = 1; i <= most; i++) {
            row['a' + i - 1] = i;
        }
        row[256] = most;
        return row;
    }

    private static void longCodes() {
        for (int most = 1; most <= 15; most++) {
            int[] row = steps(most);
            String[] codes = Bits.codesOf(row);
            Bits packed = bits().codes(true, row, new int[1]);
            StringBuilder want = new StringBuilder();
            for (int i = 0; i < most; i++) {
                packed.code(codes['a' + i]).code(codes['a' + most - 1 - i]);
                want.append((char) ('a' + i)).append((char) ('a' + most - 1 - i));
            }
            due("codes of " + most + " bits", packed.code(codes[256]), want.toString());
            row['a' + most - 1] = 0;
            due("not full by one of " + most, bits().codes(true, row, new int[1]).code(codes[256]),
                    CORRUPT);
        }
        int[] row = steps(15);
        row['z'] = 15;
        due("one of 15 bits too many", bits().codes(true, row, new int[1])
                .code("1".repeat(15)), CORRUPT);
        int[] far = new int[16];
        for (int i = 0; i < 16; i++) {
            far[i] = Math.min(i + 1, 15);
        }
        int[] copying = steps(2);
        copying = Arrays.copyOf(copying, 258);
        copying['b'] = 2;
        copying[256] = 3;
        copying[257] = 3;
        due("distances of many bits", bits().codes(true, copying, far).code("0").code("10")
                .code("0").code("0").code("0").code("111").code(Bits.codesOf(far)[4]).code("0")
                .code("111").code(Bits.codesOf(far)[2]).code("110"), "abaaaabaaba");
        due("a distance of 15 bits", bits().block(false, 1).letters("xyza").letter(281)
                .number(0, 5).distance(0).letter(256).codes(true, copying, far).code("111")
                .code(Bits.codesOf(far)[14]).number(6, 6).code("110"),
                "xyz" + times("a", 132) + "xyz");
        due("a distance too far by a long code", bits().codes(true, copying, far).code("0")
                .code("111").code(Bits.codesOf(far)[15]).number(0, 6).code("110"), CORRUPT);
    }

    /** A length whose distance has no code, with all bits behind it that could be taken. */
    private static void noCodes() {
        int[] row = Arrays.copyOf(steps(1), 258);
        row[256] = 2;
        row[257] = 2;
        for (int more = 0; more < 24; more++) {
            due("no distance, " + more + " bits more", bits().codes(true, row, new int[1])
                    .code("0").code("11").code("0".repeat(more)).code("10"), CORRUPT);
            due("the other bit, " + more + " bits more", bits().codes(true, row, new int[] {1})
                    .code("0").code("11").code("1".repeat(more + 1)).code("10"), CORRUPT);
        }
        due("the one bit", bits().codes(true, row, new int[] {1}).code("0").code("11").code("0")
                .code("10"), "aaaa");
    }

    /** Too few bits for what is behind a length or a distance, but enough for what follows. */
    private static void bitsThatRunOut() {
        int[] row = Arrays.copyOf(steps(1), 285);
        row[256] = 2;
        row[281] = 3;
        row[257] = 3;
        int[] one = {1};
        int[] tenth = new int[11];
        tenth[10] = 1;
        int corrupt = 0;
        for (int n = 1; n < 20; n++) {
            Bits length = bits().codes(true, row, one).code("0".repeat(n)).code("111").code("0")
                    .code("10");
            String want = inflated(length.bytes());
            corrupt += want.equals(CORRUPT) ? 1 : 0;
            due("length without its bits behind " + n, length, want);
            Bits distance = bits().codes(true, row, tenth).code("0".repeat(n + 50)).code("110")
                    .code("0").code("10");
            due("distance without its bits behind " + n, distance, inflated(distance.bytes()));
        }
        CHECK.due("some run out", corrupt > 0, true);
    }

    private static String textOf(byte[] row, int n) {
        StringBuilder text = new StringBuilder();
        for (int i = 0; i < n; i++) {
            text.append((char) (row[i] & 255));
        }
        return text.toString();
    }

    private static byte[] someText(Random random, int most) {
        int n = random.nextInt(most + 1);
        int letters = 1 + random.nextInt(30);
        byte[] row = new byte[n];
        for (int i = 0; i < n; i++) {
            int kind = random.nextInt(8);
            int back = 1 + random.nextInt(60);
            row[i] = kind < 4 && back <= i ? row[i - back]
                    : (byte) (kind == 7 ? random.nextInt(256) : 97 + random.nextInt(letters));
            int more = kind < 3 && back <= i ? random.nextInt(20) : 0;
            for (int k = 0; k < more && i + 1 < n; k++) {
                i++;
                row[i] = row[i - back];
            }
        }
        return row;
    }

    private static int[] deflated(Random random, byte[] row) {
        Deflater deflater = new Deflater(random.nextInt(10), true);
        deflater.setStrategy(random.nextInt(3));
        deflater.setInput(row);
        deflater.finish();
        byte[] packed = new byte[1000];
        int n = 0;
        for (int i = 0; i < 10 && !deflater.finished(); i++) {
            n += deflater.deflate(packed, n, packed.length - n);
        }
        deflater.end();
        int[] answer = new int[n];
        for (int i = 0; i < n; i++) {
            answer[i] = packed[i] & 255;
        }
        return answer;
    }

    private static void asTheLibraryDeflates() {
        Random random = new Random(20261115);
        int told = 0;
        for (int i = 0; i < 1500; i++) {
            byte[] row = someText(random, 205);
            int[] packed = deflated(random, row);
            if (packed.length <= 120) {
                told++;
                due("deflated " + i, packed, row.length > 200 ? CORRUPT : textOf(row, row.length));
            }
        }
        CHECK.due("texts that could be told", told > 700, true);
    }

    /** Damaged bytes must be read, or found corrupt, as the library does it. */
    private static void asTheLibraryInflates() {
        Random random = new Random(8);
        int whole = 0;
        for (int i = 0; i < 6000; i++) {
            int[] packed = deflated(random, someText(random, 150));
            for (int k = random.nextInt(4); k > 0 && packed.length > 0; k--) {
                packed[random.nextInt(packed.length)] ^= 1 << random.nextInt(8);
            }
            if (packed.length <= 120) {
                String want = inflated(packed);
                whole += want.equals(CORRUPT) ? 0 : 1;
                due("damaged " + i, packed, want);
            }
        }
        CHECK.due("damaged ones that could be read", whole > 1000, true);
    }

    private static String inflated(int[] packed) {
        byte[] in = new byte[packed.length];
        for (int i = 0; i < in.length; i++) {
            in[i] = (byte) packed[i];
        }
        Inflater inflater = new Inflater(true);
        inflater.setInput(in);
        byte[] out = new byte[201];
        int n = 0;
        try {
            for (int more = -1; more != 0 && n < out.length; n += more) {
                more = inflater.inflate(out, n, out.length - n);
            }
        } catch (DataFormatException e) {
            n = -1;
        }
        boolean whole = n >= 0 && n <= 200 && inflater.finished() && inflater.getRemaining() == 0;
        inflater.end();
        return whole ? textOf(out, n) : CORRUPT;
    }
}
