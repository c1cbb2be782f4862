/** The boundary cases of promises 1 to 6, and of the terms bytes, sum, names and entering. */
public final class ArchiveEdgesTest {
    private static final Check CHECK = new Check();
    private static final int LOWEST = Integer.MIN_VALUE;
    private static final int HIGHEST = Integer.MAX_VALUE;

    public static void main(String[] args) {
        nothingIsThereAtFirst();
        putsOneToEightBytes();
        putsTheLowestBytesOfAnyNumber();
        putsUpTo120();
        putsAgainBehindEnter();
        entersNamesOfOneToFourBytes();
        entersNoEmptyName();
        entersMethods0And8();
        entersUpToSix();
        entersUpTo240Bytes();
        entersByTheLengthOfTheName();
        entersNothingDrafted();
        entersUpTo200Inflated();
        entersTwins();
        sums();
        finishesSlots0To3();
        finishesFreeSlotsOnly();
        finishesEmptyAndFull();
        spoilsFromTheFirstToTheLastByte();
        spoilsBy0To255();
        spoilsWhereAnArchiveIs();
        peeksFromTheFirstToTheLastByte();
        CHECK.end();
    }

    private static House house(String about) {
        return new House(CHECK, about);
    }

    /** Promise 1: "No archives, no loaders, nothing drafted, no iteration." */
    private static void nothingIsThereAtFirst() {
        House h = house("new");
        h.dueFault(0, -1);
        h.dueNext(-1);
        h.due("all(0, a, 0)", h.x.all(0, 'a', 0), -1);
        h.due("enter", h.x.enter('a', 0), true);
        for (int slot = 0; slot < 4; slot++) {
            h.due("peek(" + slot + ", 0)", h.x.peek(slot, 0), -1);
            h.archive(slot);
        }
        h.due("length of the first one", h.length(0), 2 + 13 + 4);
        h.due("its packed bytes", h.x.peek(0, 2 + 9), 0);
        h.due("length of the second one", h.length(1), 4);
        h.due("open(-1)", h.x.open(-1), 0);
    }

    /** Promise 2: "false if n is not 1 .. 8". */
    private static void putsOneToEightBytes() {
        House h = house("put n");
        int[] below = {LOWEST, -256, -8, -1, 0};
        for (int n : below) {
            h.due("put(7, " + n + ")", h.x.put(7, n), false);
        }
        for (int n = 1; n <= 8; n++) {
            h.due("put(n, " + n + ")", h.x.put(n, n), true);
        }
        int[] above = {9, 10, 16, 64, 256 + 1, 65536 + 8, HIGHEST};
        for (int n : above) {
            h.due("put(7, " + n + ")", h.x.put(7, n), false);
        }
        h.entry("a", 0).archive(0);
        StringBuilder want = new StringBuilder();
        for (int n = 1; n <= 8; n++) {
            want.append((char) n).append("\0".repeat(n - 1));
        }
        h.dueContent(0, want.toString());
    }

    /** Promise 2: "the n lowest bytes of v, the lowest one first". */
    private static void putsTheLowestBytesOfAnyNumber() {
        long[] numbers = {0, -1, 1, Long.MIN_VALUE, Long.MAX_VALUE, 0xFF00FF00FF00FF00L,
            0x8182838485868788L, 1L << 32, 0xFFFFFFFFL, 255, 256};
        for (long v : numbers) {
            House h = house("put(" + v + ")");
            StringBuilder want = new StringBuilder();
            for (int n = 1; n <= 8; n++) {
                h.due("put " + n, h.x.put(v, n), true);
                for (int i = 0; i < n; i++) {
                    want.append((char) (v >>> 8 * i & 255));
                }
            }
            h.entry("a", 0).archive(0);
            h.dueContent(0, want.toString());
        }
    }

    /** Promise 2: "or it would be more than 120". */
    private static void putsUpTo120() {
        for (int n = 1; n <= 8; n++) {
            House full = house("120 by " + n);
            full.draft(new int[120 - n]);
            full.due("put up to 120", full.x.put(-1, n), true);
            full.due("put of one more", full.x.put(-1, 1), false);
            full.due("put of eight more", full.x.put(-1, 8), false);
            full.entry("a", 0).archive(0);
            full.due("the last byte", full.x.content(0, 119), 255);
            full.due("behind it", full.x.content(0, 120), -1);
            House over = house("121 by " + n);
            over.draft(new int[121 - n]);
            over.due("put up to 121", over.x.put(-1, n), false);
            over.due("put of what is left", over.x.put(-1, n - 1), n > 1);
            over.entry("a", 0).archive(0);
            over.due("the last byte", over.x.content(0, 119), n > 1 ? 255 : 0);
            over.due("behind it", over.x.content(0, 120), -1);
        }
    }

    /** Promise 3: "nothing is drafted then", so that 120 bytes fit again. */
    private static void putsAgainBehindEnter() {
        House h = house("put again");
        h.draft(new int[120]);
        h.due("put of one more", h.x.put(1, 1), false);
        h.due("enter", h.x.enter('a', 0), true);
        h.draft(new int[120]);
        h.due("put of one more again", h.x.put(1, 1), false);
    }

    /** Terms: "a NAME of 1 to 4 bytes 33 .. 126". */
    private static void entersNamesOfOneToFourBytes() {
        for (int length = 1; length <= 4; length++) {
            for (int at = 0; at < length; at++) {
                dueName(length, at, 1, false);
                dueName(length, at, 32, false);
                dueName(length, at, 33, true);
                dueName(length, at, 126, true);
                dueName(length, at, 127, false);
                dueName(length, at, 128, false);
                dueName(length, at, 255, false);
                if (at < length - 1) {
                    dueName(length, at, 0, false);
                }
            }
        }
    }

    private static void dueName(int length, int at, int b, boolean want) {
        int name = 0;
        for (int i = 0; i < length; i++) {
            name |= (i == at ? b : 'm') << 8 * i;
        }
        House h = house("a name of " + length + " with " + b + " at " + at);
        h.due("enter", h.x.enter(name, 0), want);
        h.archive(0).loader(-1, 0);
        h.due("its entries", h.x.peek(0, h.length(0) - 3), want ? 1 : 0);
        h.due("all", h.x.all(0, name, 0), want ? 0 : -1);
        if (want) {
            h.due("how many bytes", h.x.peek(0, 2), length);
            h.due("the byte", h.x.peek(0, 3 + at), b);
        }
    }

    /** Terms: a name has one byte at least. */
    private static void entersNoEmptyName() {
        int[] none = {0, LOWEST, -1, 'a' << 8, 'a' << 16, 'a' << 24};
        for (int name : none) {
            House h = house("the name " + name);
            h.due("enter", h.x.enter(name, 0), false);
            h.archive(0).loader(-1, 0);
            h.due("length", h.length(0), 4);
            h.due("all", h.x.all(0, name, 0), -1);
        }
    }

    /** Promise 3: "False (changing nothing) if .. the method is not 0 or 8". */
    private static void entersMethods0And8() {
        int[] wrong = {LOWEST, -8, -1, 1, 2, 4, 7, 9, 16, 256, 264, HIGHEST};
        House h = house("method");
        h.draft(3, 0);
        for (int method : wrong) {
            h.due("enter(a, " + method + ")", h.x.enter('a', method), false);
        }
        h.due("enter(a, 0)", h.x.enter('a', 0), true);
        h.draft(3, 0);
        h.due("enter(b, 8)", h.x.enter('b', 8), true);
        h.archive(0);
        h.dueContent(0, "\3\0");
        h.dueContent(1, "");
        h.due("entries", h.x.peek(0, h.length(0) - 3), 2);
    }

    /** Promise 3: "6 entries are there". */
    private static void entersUpToSix() {
        for (int n = 4; n <= 7; n++) {
            House h = house(n + " entries");
            for (int i = 0; i < n; i++) {
                h.due("enter " + i, h.x.enter('a' + i, 0), i < 6);
            }
            h.archive(0);
            int kept = Math.min(n, 6);
            h.due("length", h.length(0), 15 * kept + 4);
            h.due("entries", h.x.peek(0, 15 * kept + 1), kept);
            for (int i = 0; i < 8; i++) {
                h.due("content(" + i + ", 0)", h.x.content(i, 0), i < kept ? -1 : -2);
            }
            h.due("enter for the next one", h.x.enter('z', 0), true);
            h.archive(1);
            h.due("its length", h.length(1), 19);
        }
    }

    /** Promise 3: "or it would have more than 240 bytes when it is finished". */
    private static void entersUpTo240Bytes() {
        for (int length = 238; length <= 242; length++) {
            House h = house(length + " bytes");
            h.entry("a", 0, new int[100]);
            int[] rest = new int[length - 4 - 115 - 15];
            rest[rest.length - 1] = 9;
            h.draft(rest);
            h.due("enter", h.x.enter('b', 0), length <= 240);
            h.due("enter of nothing more", h.x.enter('c', 0), false);
            h.archive(0);
            h.due("length", h.length(0), length <= 240 ? length : 119);
            h.due("the last byte", h.x.content(1, rest.length - 1), length <= 240 ? 9 : -2);
            h.due("the directory", h.x.peek(0, Math.min(length, 242) - 2),
                    length <= 240 ? length - 4 - 26 : -1);
        }
    }

    /** The name's bytes count too; what was refused for a name fits with a shorter one. */
    private static void entersByTheLengthOfTheName() {
        for (int room = 1; room <= 4; room++) {
            House h = house("room for a name of " + room);
            h.entry("a", 0, new int[100]);
            h.draft(new int[240 - 4 - 115 - 14 - room]);
            for (int length = 4; length > room; length--) {
                int name = House.name("bcde".substring(0, length));
                h.due("enter of a name of " + length, h.x.enter(name, 0), false);
            }
            int name = House.name("bcde".substring(0, room));
            h.due("enter", h.x.enter(name, 0), true);
            h.archive(0);
            h.due("peek the last byte", h.x.peek(0, 239), 0);
            h.due("peek behind it", h.x.peek(0, 240), -1);
            h.due("the directory", h.x.peek(0, 238), 240 - 4 - 13 - 12 - room);
            h.due("content(1, 0)", h.x.content(1, 0), 0);
        }
    }

    /** Nothing drafted: stored it has a size of 0, and can't be inflated. */
    private static void entersNothingDrafted() {
        House h = house("nothing drafted");
        h.entry("a", 0).entry("b", 8).draft(5);
        h.due("enter", h.x.enter('c', 0), true);
        h.due("enter at once again", h.x.enter('d', 0), true);
        h.archive(0);
        h.dueContent(0, "");
        h.dueContent(1, "-2");
        h.dueContent(2, "\5");
        h.dueContent(3, "");
        for (int i = 3; i < 11; i++) {
            h.due("a's sum, sizes and place, byte " + i, h.x.peek(0, 9 + i), 0);
            h.due("b's sum and sizes, byte " + i, h.x.peek(0, 9 + 13 + i), 0);
        }
    }

    /** Promise 3: "with the size and sum of its content (0 and 0, if it can't be inflated)". */
    private static void entersUpTo200Inflated() {
        for (int n = 199; n <= 202; n++) {
            int[] packed = new Bits().block(true, 1).letter('q').letter(283)
                    .number(n - 1 - 195, 5).distance(0).letter(256).bytes();
            House h = house(n + " bytes inflated");
            h.entry("a", 8, packed).archive(0);
            boolean fits = n <= 200;
            int sum = fits ? House.sum(House.bytes("q".repeat(n))) : 0;
            int record = 2 + packed.length;
            for (int i = 0; i < 4; i++) {
                h.due("sum, byte " + i, h.x.peek(0, record + 3 + i), sum >>> 8 * i & 255);
            }
            h.due("size", h.x.peek(0, record + 7), fits ? n : 0);
            h.due("size, higher byte", h.x.peek(0, record + 8), 0);
            h.due("packed size", h.x.peek(0, record + 9), packed.length);
            h.due("the last byte", h.x.content(0, n - 1), fits ? 'q' : -2);
            h.due("behind it", h.x.content(0, n), fits ? -1 : -2);
        }
    }

    /** Promise 3: "two entries may have the same one: the archive is not sound then". */
    private static void entersTwins() {
        House h = house("twins");
        h.text("ab", "1").text("ab", "2").archive(0).loader(-1, 0);
        h.due("entries", h.x.peek(0, h.length(0) - 3), 2);
        h.due("all(0, ab, 0)", h.x.all(0, House.name("ab"), 0), -1);
        h.dueContent(0, "-2");
        h.dueContent(1, "-2");
        House near = house("no twins");
        near.text("ab", "1").text("ba", "2").text("a", "3").text("abc", "4").archive(0);
        for (int i = 0; i < 4; i++) {
            near.dueContent(i, "" + (i + 1));
        }
    }

    /** Terms: the SUM of no byte, of one, of many; its four bytes are the record's. */
    private static void sums() {
        int[] all = new int[120];
        int[] high = new int[120];
        for (int i = 0; i < 120; i++) {
            all[i] = 255;
            high[i] = 136 + i;
        }
        int[][] rows = {{}, {0}, {1}, {127}, {128}, {255}, {0, 0}, {255, 255, 255, 255},
            new int[120], all, high};
        for (int[] row : rows) {
            House h = house("the sum of " + row.length + " bytes");
            h.entry("a", 0, row).archive(0);
            int sum = House.sum(row);
            for (int i = 0; i < 4; i++) {
                int at = 2 + row.length + 3 + i;
                h.due("byte " + i, h.x.peek(0, at), sum >>> 8 * i & 255);
                h.due("spoil it", h.x.spoil(0, at, 128), true);
                h.due("content(0, 0) then", h.x.content(0, 0), -2);
                h.due("mend it", h.x.spoil(0, at, 128), true);
                h.due("content(0, 0) again", h.x.content(0, 0), row.length == 0 ? -1 : row[0]);
            }
        }
    }

    /** Promise 4: "False if there is no such slot". */
    private static void finishesSlots0To3() {
        for (int slot = 0; slot <= 3; slot++) {
            House h = house("slot " + slot);
            h.text("a", "made");
            int[] wrong = {LOWEST, -4, -1, 4, 5, 8, 256, HIGHEST};
            for (int no : wrong) {
                h.due("finish(" + no + ")", h.x.finish(no), false);
            }
            h.archive(slot);
            for (int other = 0; other < 4; other++) {
                h.due("peek(" + other + ", 0)", h.x.peek(other, 0), other == slot ? 75 : -1);
                h.dueContent(8 * other, other == slot ? "made" : "-2");
            }
        }
    }

    /** Promise 4: "or an archive in it", be it empty, or not sound. */
    private static void finishesFreeSlotsOnly() {
        House h = house("free slots");
        h.archive(0).text("a", "1").text("a", "2").archive(1).text("b", "3");
        h.due("finish(0) with an empty one", h.x.finish(0), false);
        h.due("finish(1) with one that is not sound", h.x.finish(1), false);
        h.due("length of 0", h.length(0), 4);
        h.due("entries of 1", h.x.peek(1, h.length(1) - 3), 2);
        h.archive(2).archive(3);
        for (int slot = 0; slot < 4; slot++) {
            h.due("finish(" + slot + ") when all are there", h.x.finish(slot), false);
        }
        h.dueContent(16, "3");
        h.due("length of 3", h.length(3), 4);
    }

    /** Promise 4: an archive has 4 bytes at least, and 240 at most; "another one begins then". */
    private static void finishesEmptyAndFull() {
        House h = house("empty and full");
        h.archive(0);
        int[] empty = {80, 0, 0, 0, -1};
        for (int i = 0; i < empty.length; i++) {
            h.due("peek(0, " + i + ")", h.x.peek(0, i), empty[i]);
        }
        h.entry("a", 0, new int[120]).entry("b", 0, new int[240 - 4 - 135 - 15]).archive(1);
        int[] end = {80, 2, 240 - 4 - 26, 0, -1};
        for (int i = 0; i < end.length; i++) {
            h.due("peek(1, " + (236 + i) + ")", h.x.peek(1, 236 + i), end[i]);
        }
        h.due("content(9, 85)", h.x.content(9, 85), 0);
        h.due("content(9, 86)", h.x.content(9, 86), -1);
        h.archive(2);
        h.due("length of the next one", h.length(2), 4);
        h.due("enter in the one behind", h.x.enter('a', 0), true);
        h.archive(3);
        h.due("the place of its body", h.x.peek(3, 2 + 11), 0);
        h.due("its length", h.length(3), 19);
    }

    /** Promise 5: "false if there is no such byte". */
    private static void spoilsFromTheFirstToTheLastByte() {
        House h = house("spoil at");
        h.archive(0).entry("a", 0, new int[120]).entry("b", 0, new int[86]).archive(1);
        h.text("a", "xyz").archive(3);
        int[] lengths = {4, 240, 0, 22};
        for (int slot = 0; slot < 4; slot++) {
            int n = lengths[slot];
            int[] wrong = {LOWEST, -240, -1, n, n + 1, 240, 241, 65536, HIGHEST};
            for (int at : wrong) {
                h.due("spoil(" + slot + ", " + at + ", 1)", h.x.spoil(slot, at, 1), false);
            }
            int[] right = {0, 1, n / 2, n - 1};
            for (int at : right) {
                if (n > 0) {
                    int before = h.x.peek(slot, at);
                    h.due("spoil(" + slot + ", " + at + ", 6)", h.x.spoil(slot, at, 6), true);
                    h.due("peek then", h.x.peek(slot, at), before ^ 6);
                }
            }
            h.due("length of " + slot, h.x.peek(slot, n), -1);
        }
    }

    /** Promise 5: "A byte of an archive becomes itself xor b .. or b is not 0 .. 255". */
    private static void spoilsBy0To255() {
        House h = house("spoil by");
        h.text("a", "x").archive(0);
        int[] wrong = {LOWEST, -256, -255, -1, 256, 257, 511, 65536, HIGHEST};
        for (int b : wrong) {
            h.due("spoil(0, 2, " + b + ")", h.x.spoil(0, 2, b), false);
            h.due("peek(0, 2)", h.x.peek(0, 2), 'x');
        }
        int[] right = {0, 1, 127, 128, 254, 255};
        for (int b : right) {
            h.due("spoil(0, 2, " + b + ")", h.x.spoil(0, 2, b), true);
            h.due("peek(0, 2)", h.x.peek(0, 2), 'x' ^ b);
            h.dueContent(0, b == 0 ? "x" : "-2");
            h.due("spoil(0, 2, " + b + ") again", h.x.spoil(0, 2, b), true);
            h.dueContent(0, "x");
        }
        h.due("from 0", h.x.spoil(0, 1, 255), true);
        h.due("to 255", h.x.peek(0, 1), 255);
    }

    /** Promise 5: there is no byte where no archive is. */
    private static void spoilsWhereAnArchiveIs() {
        House h = house("spoil slot");
        int[] slots = {LOWEST, -1, 0, 1, 2, 3, 4, 5, HIGHEST};
        for (int slot : slots) {
            h.due("spoil(" + slot + ", 0, 1)", h.x.spoil(slot, 0, 1), false);
            h.due("peek(" + slot + ", 0)", h.x.peek(slot, 0), -1);
        }
        h.text("a", "x").archive(2);
        for (int slot : slots) {
            h.due("spoil(" + slot + ", 0, 1) with 2", h.x.spoil(slot, 0, 1), slot == 2);
            h.due("peek(" + slot + ", 0) with 2", h.x.peek(slot, 0), slot == 2 ? 74 : -1);
        }
    }

    /** Promise 6: "A byte of an archive; NONE if there is none"; 255 and 0 are bytes. */
    private static void peeksFromTheFirstToTheLastByte() {
        House h = house("peek");
        h.entry("a", 0, 255, 0, 128, 127).archive(1);
        int[] want = {75, 0, 255, 0, 128, 127, 1, 'a', 0};
        for (int at = 0; at < want.length; at++) {
            h.due("peek(1, " + at + ")", h.x.peek(1, at), want[at]);
        }
        h.due("peek(1, 22)", h.x.peek(1, 22), 0);
        int[] none = {LOWEST, -256, -1, 23, 24, 239, 240, 256, 65536, HIGHEST};
        for (int at : none) {
            h.due("peek(1, " + at + ")", h.x.peek(1, at), -1);
        }
    }
}
