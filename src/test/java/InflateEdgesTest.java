import java.util.Arrays;

/** The boundary cases of "TO INFLATE": blocks, codes, letters, distances, and ends. */
public final class InflateEdgesTest {
    private static final Check CHECK = new Check();
    private static final String CORRUPT = Packed.CORRUPT;

    public static void main(String[] args) {
        kinds();
        restOfTheByteBeforeAStoredBlock();
        storedBlocksFrom0On();
        storedBlocksUpTo200();
        secondNumberOfAStoredBlock();
        everyFixedLetter();
        fixedLengths();
        lettersBehind285();
        fixedDistances();
        distancesFrom16On();
        asFarAsThereAreBytes();
        lettersUpTo286();
        distancesUpTo30();
        marksTold();
        mark16();
        mark16AtTheBeginning();
        mark17();
        mark18();
        neverMoreThanThereAre();
        lettersAndDistancesInARow();
        letter256();
        fullMarks();
        fullLetters();
        fullDistances();
        oneDistance();
        noDistances();
        endsTooEarly();
        noByteLeft();
        upTo200Bytes();
        CHECK.end();
    }

    private static void due(String what, Bits packed, String want) {
        Packed.due(CHECK, what, packed.bytes(), want);
    }

    private static Bits bits() {
        return new Bits();
    }

    private static Bits fixed() {
        return bits().block(true, 1);
    }

    private static String letter(int n) {
        return "" + (char) n;
    }

    /** "a bit (1: the last block), two bits KIND .. 3 is corrupt" */
    private static void kinds() {
        int[] twoLetters = new int[257];
        twoLetters['a'] = 1;
        twoLetters[256] = 1;
        for (int last = 0; last <= 1; last++) {
            String want = last == 1 ? "" : CORRUPT;
            due("kind 0", bits().stored(last == 1, ""), want);
            due("kind 1", bits().block(last == 1, 1).letter(256), want);
            due("kind 2", bits().codes(last == 1, twoLetters, new int[1]).code("1"), want);
            due("kind 3", bits().block(last == 1, 3).number(0, 40), CORRUPT);
            due("kind 3, cut", bits().block(last == 1, 3), CORRUPT);
        }
        due("each behind the other", bits().stored(false, "x").block(false, 1).letter('y')
                .letter(256).codes(false, twoLetters, new int[1]).code("01").stored(true, "z"),
                "xyaz");
        due("3 behind another", bits().stored(false, "x").block(true, 3).number(0, 40), CORRUPT);
    }

    /** "0: what is left of the byte is passed", be it no bit, or seven, and whatever they are. */
    private static void restOfTheByteBeforeAStoredBlock() {
        for (int n = 0; n < 8; n++) {
            // Letters of 9 bits, so that each n begins the stored block at another bit.
            for (int rest = 0; rest <= 1; rest++) {
                Bits packed = bits().block(false, 1).letters("\377".repeat(n)).letter(256);
                int used = 3 + 9 * n + 7 + 3;
                packed.block(true, 0).number(rest == 0 ? 0 : 127, (8 - used % 8) % 8);
                packed.number(2, 16).number(65533, 16).number('o', 8).number('k', 8);
                due("stored from bit " + used % 8, packed, "\377".repeat(n) + "ok");
            }
        }
    }

    /** "two bytes n, .. n bytes as they are" */
    private static void storedBlocksFrom0On() {
        for (int there = 0; there <= 3; there++) {
            for (int n = 0; n <= 4; n++) {
                Bits packed = bits().block(true, 0).toByte().number(n, 16).number(65535 - n, 16);
                packed.number(0x5A4B3C, 8 * there);
                due(n + " stored, " + there + " there", packed,
                        n == there ? "<KZ".substring(0, n) : CORRUPT);
            }
        }
        for (int n = 4; n <= 115; n++) {
            for (int there = n - 1; there <= n; there++) {
                Bits packed = bits().block(true, 0).toByte().number(n, 16).number(65535 - n, 16);
                for (int i = 0; i < there; i++) {
                    packed.number('s', 8);
                }
                due(n + " stored, " + there + " there", packed,
                        there == n ? "s".repeat(n) : CORRUPT);
            }
        }
        due("bytes 0 and 255", bits().stored(true, "\0\377\200\177"), "\0\377\200\177");
        int[] many = {256, 257, 511, 512, 32768, 65535};
        for (int n : many) {
            due(n + " stored", bits().block(true, 0).toByte().number(n, 16).number(65535 - n, 16)
                    .number('a', 8), CORRUPT);
        }
    }

    /** "More than 200 bytes are corrupt": in one stored block. */
    private static void storedBlocksUpTo200() {
        for (int n = 198; n <= 203; n++) {
            String text = "0123456789".repeat(21).substring(0, n);
            String most = text.substring(0, Math.min(n, 200));
            Packed.dueForged(CHECK, n + " stored", bits().stored(true, text).bytes(), most,
                    n <= 200);
            Bits two = bits().stored(false, text.substring(0, 150));
            Packed.dueForged(CHECK, n + " stored in two blocks",
                    two.stored(true, text.substring(150)).bytes(), most, n <= 200);
        }
    }

    /** "two bytes 65535 - n" */
    private static void secondNumberOfAStoredBlock() {
        for (int bit = 0; bit < 16; bit++) {
            due("bit " + bit + " of the second number", bits().block(true, 0).toByte()
                    .number(1, 16).number(65534 ^ 1 << bit, 16).number('a', 8), CORRUPT);
            due("bit " + bit + " of the first number", bits().block(true, 0).toByte()
                    .number(1 ^ 1 << bit, 16).number(65534, 16).number('a', 8), CORRUPT);
        }
        due("one less", bits().block(true, 0).toByte().number(1, 16).number(65533, 16)
                .number('a', 8), CORRUPT);
        due("one more", bits().block(true, 0).toByte().number(1, 16).number(65535, 16)
                .number('a', 8), CORRUPT);
        due("the same", bits().block(true, 0).toByte().number(0, 16).number(0, 16), CORRUPT);
    }

    /** "LETTERS 0 .. 143 have 8 bits, .. 255 9" */
    private static void everyFixedLetter() {
        for (int s = 0; s < 256; s++) {
            due("letter " + s, fixed().letter(s).letter('!').letter(256), letter(s) + "!");
        }
    }

    /** ".. 279 7, .. 287 8": lengths, each with the least and the most that it says. */
    private static void fixedLengths() {
        for (int s = 257; s <= 285; s++) {
            int extra = s <= 264 || s == 285 ? 0 : (s - 261) / 4;
            int base = s <= 264 ? s - 254 : s == 285 ? 258
                    : 3 + (4 + (s - 261) % 4) * (1 << extra);
            int most = (1 << extra) - 1;
            for (int more = 0; more <= most; more += Math.max(most, 1)) {
                int n = 1 + base + more;
                due("length " + s + " and " + more, fixed().letter('a').letter(s)
                        .number(more, extra).distance(0).letter('!').letter(256),
                        n < 200 ? "a".repeat(n) + "!" : CORRUPT);
            }
        }
    }

    /** "285 is 258, 286 and 287 are corrupt" */
    private static void lettersBehind285() {
        for (int s = 285; s <= 287; s++) {
            due("letter " + s, fixed().letter('a').letter(s).distance(0).letter(256), CORRUPT);
            due("letter " + s + " and an end", fixed().letter('a').letter(s).letter(256)
                    .number(0, 16), CORRUPT);
        }
    }

    /** Each byte is one more than the one before. */
    private static String rising(int n) {
        StringBuilder text = new StringBuilder();
        for (int i = 0; i < n; i++) {
            text.append((char) i);
        }
        return text.toString();
    }

    /** "below 4 it is d + 1; below 30 .. 1 + (2 + d % 2) * 2^e and e bits more" */
    private static void fixedDistances() {
        String text = rising(197);
        for (int d = 0; d < 16; d++) {
            int extra = d < 4 ? 0 : d / 2 - 1;
            int base = d < 4 ? d + 1 : 1 + (2 + d % 2) * (1 << extra);
            int most = Math.min((1 << extra) - 1, 197 - base);
            for (int more = 0; more <= most; more += Math.max(most, 1)) {
                String want = text;
                for (int i = 0; i < 3; i++) {
                    want += want.charAt(197 + i - base - more);
                }
                Bits packed = bits().stored(false, text).block(true, 1).letter(257).distance(d)
                        .number(more, extra).letter(256);
                Packed.dueForged(CHECK, "distance " + d + " and " + more, packed.bytes(), want,
                        true);
            }
        }
    }

    /** "below 30 ..; else corrupt": no content is so long that 16 .. 29 could reach back. */
    private static void distancesFrom16On() {
        for (int d = 16; d < 32; d++) {
            int extra = Math.min(d / 2 - 1, 13);
            due("distance " + d, fixed().letters("abc").letter(257).distance(d).number(0, extra)
                    .letter(256), CORRUPT);
            due("distance " + d + " and the end", fixed().letters("abc").letter(257).distance(d)
                    .letter(256), CORRUPT);
            due("distance " + d + " without bits", fixed().letters("abc").letter(257).distance(d)
                    .letter(256).number(0, 24), CORRUPT);
        }
    }

    /** "so far there must be bytes": as many as the distance says, not one fewer. */
    private static void asFarAsThereAreBytes() {
        int[] there = {1, 2, 3, 4, 5, 6, 8, 12, 24};
        for (int n : there) {
            String text = rising(n);
            for (int d = 0; d < 10; d++) {
                int extra = d < 4 ? 0 : d / 2 - 1;
                int base = d < 4 ? d + 1 : 1 + (2 + d % 2) * (1 << extra);
                for (int more = 0; more < 1 << extra; more++) {
                    String want = text;
                    for (int i = 0; i < 3 && base + more <= n; i++) {
                        want += want.charAt(n + i - base - more);
                    }
                    due(n + " there, back " + (base + more), fixed().letters(text).letter(257)
                            .distance(d).number(more, extra).letter(256),
                            base + more <= n ? want : CORRUPT);
                }
            }
        }
        due("none there", fixed().letter(257).distance(0).letter(256), CORRUPT);
        String far = rising(196);
        for (int back = 195; back <= 197; back++) {
            Bits packed = bits().stored(false, far).block(true, 1).letter(258).distance(15)
                    .number(back - 193, 6).letter(256);
            String want = far + (back <= 196 ? far.substring(196 - back, 200 - back) : "");
            Packed.dueForged(CHECK, "back " + back + " of 196", packed.bytes(), want, back <= 196);
        }
    }

    /** A block's letters: 97 and 256 of one bit each, all others none. */
    private static int[] aAndEnd(int letters) {
        int[] row = new int[letters];
        row['a'] = 1;
        row[256] = 1;
        return row;
    }

    /** "a + 257 letters (286 at most)" */
    private static void lettersUpTo286() {
        for (int n = 257; n <= 288; n++) {
            due(n + " letters", bits().codes(true, aAndEnd(n), new int[1]).code("001"),
                    n <= 286 ? "aa" : CORRUPT);
        }
        int[] last = aAndEnd(286);
        last[256] = 2;
        last[285] = 2;
        due("letter 285 of its own code", bits().codes(true, last, new int[] {1}).code("0")
                .code("11").code("0").code("10"), CORRUPT);
        due("letter 285 not used", bits().codes(true, last, new int[] {1}).code("010"), "a");
    }

    /** "b + 1 distances (30 at most)" */
    private static void distancesUpTo30() {
        for (int n = 1; n <= 32; n++) {
            due(n + " distances", bits().codes(true, aAndEnd(257), new int[n]).code("001"),
                    n <= 30 ? "aa" : CORRUPT);
        }
        int[] last = new int[30];
        last[29] = 1;
        due("distance 29 has a code", bits().codes(true, aAndEnd(257), last).code("001"), "aa");
    }

    /**
     * "c + 4 numbers of 3 bits are how many bits the marks 16, 17, .. have (those not told 0)":
     * for each c from 1 on, a block whose letters need the last mark that is told.
     */
    private static void marksTold() {
        for (int c = 1; c <= 15; c++) {
            int mark = Bits.MARK_ORDER[c + 3];
            int[] letterBits = mark <= 8 ? even(mark) : uneven(mark);
            int[] markBits = marksFor(mark);
            Bits packed = bits().block(true, 2).number(letterBits.length - 257, 5).number(0, 5)
                    .number(c, 4);
            for (int i = 0; i < c + 4; i++) {
                packed.number(markBits[Bits.MARK_ORDER[i]], 3);
            }
            String[] marks = Bits.codesOf(markBits);
            for (int b : letterBits) {
                packed.code(marks[b]);
            }
            packed.code(marks[0]);
            String[] letters = Bits.codesOf(letterBits);
            due("c = " + c, packed.code(letters[254]).code(letters[255]).code(letters[256]),
                    "\376\377");
        }
        due("c = 0", bits().block(true, 2).number(0, 5).number(0, 5).number(0, 4).number(0, 3)
                .number(0, 3).number(1, 3).number(1, 3).number(0, 60), CORRUPT);
    }

    /** 2 to the power of n letters of n bits, 256 the last of them. */
    private static int[] even(int n) {
        int[] row = new int[257];
        Arrays.fill(row, 257 - (1 << n), 257, n);
        if (n == 1) {
            // 254 and 255 must be there too.
            row[255] = 2;
            row[254] = 2;
            row[256] = 1;
        }
        return row;
    }

    /** 255 letters of 8 bits, one of 9 and so on, two of the most. */
    private static int[] uneven(int most) {
        int[] row = new int[256 + most - 8];
        Arrays.fill(row, 0, 255, 8);
        for (int i = 255; i < row.length; i++) {
            row[i] = Math.min(8 + i - 254, most);
        }
        return row;
    }

    /** A full code of the marks that even() and uneven() need, and of 0. */
    private static int[] marksFor(int mark) {
        int[] bits = new int[19];
        if (mark == 1) {
            bits[0] = 1;
            bits[1] = 2;
            bits[2] = 2;
        } else if (mark <= 8) {
            bits[0] = 1;
            bits[mark] = 1;
        } else {
            bits[8] = 1;
            int others = mark - 7;
            for (int i = 0; i < others; i++) {
                int few = Math.min(i + 2, others);
                bits[i == 0 ? 0 : 8 + i] = others == 8 ? 4 : few;
            }
        }
        return bits;
    }

    /** Marks 0, 1, 3, 16, 17 and 18 and their codes. */
    private static final int[] SOME_MARKS = someMarks();
    private static final String[] MARKS = Bits.codesOf(SOME_MARKS);

    private static int[] someMarks() {
        int[] bits = new int[19];
        bits[0] = 2;
        bits[1] = 3;
        bits[3] = 3;
        bits[16] = 2;
        bits[17] = 3;
        bits[18] = 3;
        return bits;
    }

    private static Bits told(int letters, int distances) {
        return bits().block(true, 2).head(letters, distances, SOME_MARKS);
    }

    /** As many marks, each by itself. */
    private static Bits marks(Bits packed, int mark, int n) {
        for (int i = 0; i < n; i++) {
            packed.code(MARKS[mark]);
        }
        return packed;
    }

    /** "16: as the one before, 3 and 2 bits more times" */
    private static void mark16() {
        for (int more = 0; more < 4; more++) {
            // Eight letters of 3 bits: the first ones, of which most by 16, and 256.
            Bits packed = told(257, 1).code(MARKS[3]).code(MARKS[16]).number(more, 2);
            marks(packed, 3, 7 - 4 - more);
            marks(packed, 0, 256 - 7).code(MARKS[3]).code(MARKS[0]);
            due("16 and " + more, packed.high(6, 3).high(0, 3).high(7, 3), "\6\0");
            Bits wrong = told(257, 1).code(MARKS[3]).code(MARKS[16]).number(more, 2);
            marks(wrong, 3, 7 - 4 - more);
            marks(wrong, 0, 255 - 7).code(MARKS[3]).code(MARKS[0]).code(MARKS[0]);
            due("16 and " + more + ", one less behind", wrong.high(6, 3).high(0, 3).high(7, 3)
                    .number(0, 8), CORRUPT);
        }
        Bits again = told(257, 1).code(MARKS[0]).code(MARKS[16]).number(3, 2).code(MARKS[16])
                .number(0, 2).code(MARKS[1]);
        marks(again, 0, 256 - 11).code(MARKS[1]).code(MARKS[0]);
        due("16 behind 16, as a 0", again.code("01"), "\n");
        Bits behind17 = told(257, 1).code(MARKS[17]).number(0, 3).code(MARKS[16]).number(1, 2)
                .code(MARKS[1]);
        marks(behind17, 0, 256 - 8).code(MARKS[1]).code(MARKS[0]);
        due("16 behind 17", behind17.code("01"), "\7");
    }

    /** "(16 not at the beginning ..)" */
    private static void mark16AtTheBeginning() {
        for (int more = 0; more < 4; more++) {
            Bits first = told(257, 1).code(MARKS[16]).number(more, 2).code(MARKS[1]);
            marks(first, 0, 256 - 4 - more).code(MARKS[1]).code(MARKS[0]);
            due("16 first, and " + more, first.code("01"), CORRUPT);
            Bits passed = told(257, 1).code(MARKS[16]).number(more, 2);
            marks(passed, 0, 97).code(MARKS[1]);
            marks(passed, 0, 158).code(MARKS[1]).code(MARKS[0]);
            due("16 first, and " + more + ", all told behind", passed.code("01"), CORRUPT);
            Bits second = told(257, 1).code(MARKS[0]).code(MARKS[16]).number(more, 2)
                    .code(MARKS[1]);
            marks(second, 0, 256 - 5 - more).code(MARKS[1]).code(MARKS[0]);
            due("16 second, and " + more, second.code("01"), letter(4 + more));
        }
    }

    /** "17: 0, 3 and 3 bits more times" */
    private static void mark17() {
        for (int more = 0; more < 8; more++) {
            Bits packed = told(257, 1).code(MARKS[17]).number(more, 3).code(MARKS[1]);
            marks(packed, 0, 256 - 4 - more).code(MARKS[1]).code(MARKS[0]);
            due("17 and " + more, packed.code("01"), letter(3 + more));
        }
    }

    /** "18: 0, 11 and 7 bits more times" */
    private static void mark18() {
        for (int more = 0; more < 128; more++) {
            Bits packed = told(257, 1).code(MARKS[18]).number(more, 7).code(MARKS[1]);
            marks(packed, 0, 256 - 12 - more).code(MARKS[1]).code(MARKS[0]);
            due("18 and " + more, packed.code("01"), letter(11 + more));
        }
    }

    /** "never more than there are to come", of letters and distances together */
    private static void neverMoreThanThereAre() {
        for (int to = 1; to <= 29; to++) {
            for (int mark = 16; mark <= 18; mark++) {
                int least = mark == 18 ? 11 : 3;
                int extra = mark == 16 ? 2 : mark == 17 ? 3 : 7;
                for (int times = Math.max(to - 1, least); times <= to + 1; times++) {
                    if (times - least < 1 << extra) {
                        dueRun(mark, to, times, times - least, extra);
                    }
                }
            }
        }
    }

    /** The distances are told by one mark (and one 0 before it), so many times, of so many. */
    private static void dueRun(int mark, int to, int times, int more, int extra) {
        Bits packed = marks(told(257, to + 1), 0, 97).code(MARKS[1]);
        marks(packed, 0, 158).code(MARKS[1]).code(MARKS[0]);
        packed.code(MARKS[mark]).number(more, extra);
        marks(packed, 0, Math.max(to - times, 0));
        if (times > to) {
            due(mark + " makes " + times + " of " + to, new Bits(packed).code("01"), CORRUPT);
            // As many as there are to come, so that all would be told without the mark.
            marks(packed, 0, to);
        }
        due(mark + " makes " + times + " of " + to + ", told", packed.code("01"),
                times <= to ? "a" : CORRUPT);
    }

    /** "all in a row": a mark may tell the last letters and the first distances at once. */
    private static void lettersAndDistancesInARow() {
        Bits zeros = marks(told(260, 20), 0, 97).code(MARKS[1]);
        marks(zeros, 0, 158).code(MARKS[1]).code(MARKS[18]).number(23 - 11, 7);
        due("zeros over the border", zeros.code("01"), "a");
        // Letters 0 .. 5, 256 and 257 and eight distances have 3 bits.
        Bits threes = told(258, 8).code(MARKS[3]).code(MARKS[16]).number(2, 2);
        marks(threes, 0, 250).code(MARKS[3]).code(MARKS[3]).code(MARKS[16]).number(3, 2)
                .code(MARKS[3]).code(MARKS[3]);
        due("threes over the border", threes.high(5, 3).high(7, 3).high(0, 3).high(6, 3),
                "\5\5\5\5");
        Bits border = told(257, 8);
        marks(border, 3, 7);
        marks(border, 0, 249).code(MARKS[3]).code(MARKS[16]).number(3, 2).code(MARKS[3])
                .code(MARKS[3]);
        due("16 from the last letter on", border.high(5, 3).high(7, 3), "\5");
    }

    /** "Letter 256 must have bits." */
    private static void letter256() {
        int[] row = new int[257];
        row['a'] = 1;
        row['b'] = 1;
        due("256 without bits", bits().codes(true, row, new int[1]).code("01"), CORRUPT);
        due("256 without bits, and nothing else", bits().codes(true, row, new int[1]), CORRUPT);
        row['b'] = 2;
        row[256] = 2;
        due("256 with bits", bits().codes(true, row, new int[1]).code("01011"), "ab");
        int[] next = new int[258];
        next['a'] = 1;
        next[257] = 1;
        due("257 with bits only", bits().codes(true, next, new int[1]).code("01"), CORRUPT);
    }

    /** "It must be full": the code of the marks. */
    private static void fullMarks() {
        int[][] codes = {{1, 1}, {1}, {2}, {1, 2}, {1, 2, 2}, {1, 2, 3}, {1, 1, 7}, {2, 2, 2},
            {2, 2, 2, 2}, {1, 2, 3, 4, 5, 6, 7}, {1, 2, 3, 4, 5, 6, 7, 7},
            {1, 2, 3, 4, 5, 6, 7, 7, 7}, {}, {1, 2, 3, 4, 5, 6, 6, 7}};
        boolean[] full = {true, false, false, false, true, false, false, false, true, false, true,
            false, false, false};
        // 18, 1 and 0 are the first ones, all that the block needs.
        int[] order = {18, 1, 0, 2, 3, 4, 5, 6, 7};
        for (int k = 0; k < codes.length; k++) {
            int[] markBits = new int[19];
            for (int i = 0; i < codes[k].length; i++) {
                markBits[order[i]] = codes[k][i];
            }
            String[] marks = Bits.codesOf(markBits);
            Bits packed = bits().block(true, 2).head(257, 11, markBits);
            String zeros = marks[18] == null ? "0" : marks[18];
            String one = marks[1] == null ? "0" : marks[1];
            packed.code(zeros).number(97 - 11, 7).code(one).code(zeros).number(127, 7)
                    .code(zeros).number(158 - 138 - 11, 7).code(one).code(zeros).number(0, 7);
            due("marks " + Arrays.toString(codes[k]), packed.code("01"), full[k] ? "a" : CORRUPT);
        }
    }

    /** "It must be full": the code of the letters, in which none of one bit may be alone. */
    private static void fullLetters() {
        int[] alone = new int[257];
        for (int n = 1; n <= 15; n++) {
            alone[256] = n;
            due("256 alone of " + n, bits().codes(true, alone, new int[1]).code("0".repeat(n)),
                    CORRUPT);
        }
        for (int n = 2; n <= 7; n++) {
            for (int count = (1 << n) - 1; count <= (1 << n) + 1; count++) {
                int[] row = new int[257];
                Arrays.fill(row, 257 - count, 257, n);
                due(count + " letters of " + n, bits().codes(true, row, new int[1])
                        .high((1 << n) - 1, n), count == 1 << n ? "" : CORRUPT);
            }
        }
        int[] steps = new int[257];
        for (int i = 1; i <= 15; i++) {
            steps[i] = i;
        }
        due("not full by one of 15", bits().codes(true, steps, new int[1]), CORRUPT);
        steps[256] = 15;
        due("full by one of 15", bits().codes(true, steps, new int[1]).code("1".repeat(15)), "");
        steps[200] = 15;
        due("more than full by one of 15", bits().codes(true, steps, new int[1])
                .code("1".repeat(15)), CORRUPT);
    }

    /** "It must be full": the code of the distances, if there are two or more. */
    private static void fullDistances() {
        int[][] codes = {{1, 1}, {1, 2}, {2, 2}, {1, 1, 1}, {1, 2, 2}, {1, 2, 3}, {2, 2, 2},
            {2, 2, 2, 2}, {2, 2, 2, 2, 2}, {1, 2, 3, 3}, {1, 0, 1}, {0, 0, 1, 1}, {1, 1, 15},
            {1, 15}, {1, 2, 3, 4, 5, 6, 7, 8, 9, 10, 11, 12, 13, 14, 15, 15},
            {1, 2, 3, 4, 5, 6, 7, 8, 9, 10, 11, 12, 13, 14, 15}};
        for (int[] code : codes) {
            int filled = 0;
            for (int b : code) {
                filled += b == 0 ? 0 : 1 << 15 - b;
            }
            due("distances " + Arrays.toString(code), bits().codes(true, aAndEnd(257), code)
                    .code("01"), filled == 1 << 15 ? "a" : CORRUPT);
        }
    }

    /** Letters a, 256 and 257 with the codes 0, 10 and 11. */
    private static int[] withLength() {
        int[] row = new int[258];
        row['a'] = 1;
        row[256] = 2;
        row[257] = 2;
        return row;
    }

    /** "but distances may be .. one of one bit": its code is 0, and 1 is no code. */
    private static void oneDistance() {
        for (int d = 0; d < 4; d++) {
            int[] row = new int[d + 1];
            row[d] = 1;
            Bits packed = bits().codes(true, withLength(), row).code("0000").code("11").code("0");
            due("distance " + d + " alone", packed.code("10"), "aaaaaaa");
            Bits other = bits().codes(true, withLength(), row).code("0000").code("11").code("1");
            due("the other bit", other.code("10").number(0, 32), CORRUPT);
        }
        for (int n = 2; n <= 15; n++) {
            due("a distance alone of " + n, bits().codes(true, aAndEnd(257), new int[] {n})
                    .code("01"), CORRUPT);
        }
    }

    /** "but distances may be none": then no length may come. */
    private static void noDistances() {
        for (int n = 1; n <= 30; n++) {
            due(n + " without bits", bits().codes(true, withLength(), new int[n]).code("0")
                    .code("10"), "a");
            due(n + " without bits, but a length", bits().codes(true, withLength(), new int[n])
                    .code("0").code("11").code("0").code("10").number(0, 32), CORRUPT);
        }
    }

    /** "as is all that ends too early" */
    private static void endsTooEarly() {
        Bits[] whole = {bits().stored(true, "abc"), fixed().letters("abcdef").letter(256),
            fixed().letter('a').letter(283).number(0, 5).distance(0).letter(256),
            bits().codes(true, withLength(), new int[] {1}).code("0110").code("110").code("10"),
            fixed().letters("abcdefgh").letter(264).distance(5).number(1, 1).letter(256)};
        String[] contents = {"abc", "abcdef", "a".repeat(196), "aaaaaaa", "abcdefghabcdefghab"};
        for (int k = 0; k < whole.length; k++) {
            int[] row = whole[k].bytes();
            for (int n = 0; n < row.length; n++) {
                Packed.due(CHECK, k + " cut at " + n, Arrays.copyOf(row, n), CORRUPT);
                Packed.due(CHECK, k + " cut at " + n + " of 120", upTo120(row, n), CORRUPT);
            }
            Packed.due(CHECK, k + " whole", row, contents[k]);
        }
        due("a last block that is not there", bits().stored(false, "abc"), CORRUPT);
        due("nothing", bits(), CORRUPT);
        due("the head of a block", bits().block(true, 0), CORRUPT);
    }

    /** A stored block and n of the bytes, as many as can be drafted: nothing lies behind them. */
    private static int[] upTo120(int[] row, int n) {
        int[] all = Arrays.copyOf(bits().stored(false, "p".repeat(115 - n)).bytes(), 120);
        System.arraycopy(row, 0, all, 120 - n, n);
        return all;
    }

    /** "Behind the last block what is left of the byte is passed, and no byte may be left." */
    private static void noByteLeft() {
        for (int n = 0; n < 8; n++) {
            String text = "\377".repeat(n);
            int used = 3 + 9 * n + 7;
            int left = (8 - used % 8) % 8;
            due(left + " bits left", fixed().letters(text).letter(256), text);
            due(left + " bits left, all 1", fixed().letters(text).letter(256).number(127, left),
                    text);
            due(left + " bits and a byte left", fixed().letters(text).letter(256)
                    .number(0, left).number(0, 8), CORRUPT);
            due(left + " bits and two bytes left", fixed().letters(text).letter(256)
                    .number(0, left).number(0x0303, 16), CORRUPT);
        }
        due("a byte behind a stored block", bits().stored(true, "a").number(0, 8), CORRUPT);
        due("a block behind the last", bits().stored(true, "a").stored(true, "b"), CORRUPT);
    }

    /** "More than 200 bytes are corrupt": by letters, by a copy, by the last of many blocks. */
    private static void upTo200Bytes() {
        for (int n = 197; n <= 203; n++) {
            String text = "a".repeat(n);
            boolean fits = n <= 200;
            Bits byLetters = fixed().letter('a').letter(283).number(0, 5).distance(0);
            due(n + " by letters", byLetters.letters("a".repeat(n - 196)).letter(256),
                    fits ? text : CORRUPT);
            due(n + " by one copy", fixed().letter('a').letter(283).number(n - 196, 5)
                    .distance(0).letter(256), fits ? text : CORRUPT);
            int left = n - 1 - 162;
            Bits copies = fixed().letter('a').letter(281).number(31, 5).distance(0);
            due(n + " by two copies", copies.letter(269 + (left - 19) / 4)
                    .number((left - 19) % 4, 2).distance(0).letter(256), fits ? text : CORRUPT);
            Bits blocks = bits().block(false, 1).letter('a').letter(283).number(0, 5).distance(0)
                    .letter(256).stored(false, "a".repeat(n - 196));
            due(n + " in blocks", blocks.block(true, 1).letter(256), fits ? text : CORRUPT);
        }
    }
}
