/** Promises 2 to 6: put, enter, finish, spoil, peek; and what makes an archive sound. */
public final class ArchiveTest {
    private static final Check CHECK = new Check();

    public static void main(String[] args) {
        putsTheLowestBytes();
        putsNoMoreThanFits();
        entersNamesOnly();
        entersMethodsOnly();
        entersSixAtMost();
        entersWhatFits();
        entersTheSums();
        writesAsTold();
        finishesSlots();
        keepsTheDraftBehindFinish();
        spoilsBytes();
        soundAndNot();
        bodiesApart();
        recordsAndNames();
        CHECK.end();
    }

    private static void putsTheLowestBytes() {
        House h = new House(CHECK, "put");
        h.due("put 8", h.x.put(0x8877665544332211L, 8), true);
        h.due("put 3", h.x.put(-1L - 0xFFFFL, 3), true);
        h.due("put 1", h.x.put(0x1FFL, 1), true);
        h.entry("x", 0).archive(0);
        int[] want = {0x11, 0x22, 0x33, 0x44, 0x55, 0x66, 0x77, 0x88, 0, 0, 255, 255};
        for (int i = 0; i < want.length; i++) {
            h.due("content(0, " + i + ")", h.x.content(0, i), want[i]);
        }
        h.due("content behind", h.x.content(0, 12), -1);
    }

    private static void putsNoMoreThanFits() {
        House h = new House(CHECK, "put much");
        int[] wrong = {0, -1, 9, 16, Integer.MAX_VALUE, Integer.MIN_VALUE};
        for (int n : wrong) {
            h.due("put(1, " + n + ")", h.x.put(1, n), false);
        }
        for (int i = 0; i < 14; i++) {
            h.due("put 8", h.x.put(i, 8), true);
        }
        h.due("put 5", h.x.put(7, 5), true);
        h.due("117 and 4", h.x.put(7, 4), false);
        h.due("117 and 3", h.x.put(7, 3), true);
        h.due("120 and 1", h.x.put(7, 1), false);
        h.entry("x", 0).archive(0);
        h.due("content(0, 119)", h.x.content(0, 119), 0);
        h.due("content(0, 120)", h.x.content(0, 120), -1);
        h.due("put behind enter", h.x.put(7, 8), true);
    }

    private static void entersNamesOnly() {
        House h = new House(CHECK, "names");
        int[] wrong = {0, 32, 127, -1, 'a' << 8, 'a' | 32 << 8, 'a' | 127 << 8, 'a' | 'b' << 16,
            'a' | 'b' << 8 | 'c' << 24, 'a' | 'b' << 8 | 'c' << 16 | 127 << 24,
            'a' | 'b' << 8 | 'c' << 16 | 200 << 24, 256, 'a' | 10 << 16};
        h.draft(5);
        for (int name : wrong) {
            h.due("enter(" + name + ", 0)", h.x.enter(name, 0), false);
        }
        h.due("enter(!, 0)", h.x.enter(33, 0), true);
        h.due("enter(~, 0)", h.x.enter(126, 0), true);
        h.due("enter(!~!~, 0)", h.x.enter(House.name("!~!~"), 0), true);
        h.due("enter(ab, 0)", h.x.enter(House.name("ab"), 0), true);
        h.archive(0).loader(-1, 0);
        h.dueContent(0, "\5");
        h.dueContent(1, "");
        h.due("all of !~!~", h.x.all(0, House.name("!~!~"), 0), 2);
        h.due("all of ab", h.x.all(0, House.name("ab"), 0), 3);
    }

    private static void entersMethodsOnly() {
        House h = new House(CHECK, "methods");
        h.draft(3, 0);
        int[] wrong = {-1, 1, 7, 9, 16, 256, 264};
        for (int method : wrong) {
            h.due("enter(97, " + method + ")", h.x.enter('a', method), false);
        }
        h.due("enter(97, 8)", h.x.enter('a', 8), true);
        h.due("enter(98, 0)", h.x.enter('b', 0), true);
        h.archive(0);
        h.dueContent(0, "");
        h.due("its method", h.x.peek(0, 1), 8);
        h.due("its packed bytes", h.x.peek(0, 2), 3);
        h.due("the next one's method", h.x.peek(0, 5), 0);
    }

    private static void entersSixAtMost() {
        House h = new House(CHECK, "six");
        for (int i = 0; i < 6; i++) {
            h.text("e" + i, "c" + i);
        }
        h.draft(9);
        h.due("a seventh", h.x.enter('a', 0), false);
        h.archive(0);
        h.due("entries", h.x.peek(0, h.length(0) - 3), 6);
        h.dueContent(5, "c5");
        h.dueContent(6, "-2");
        h.dueContent(7, "-2");
        h.due("in the next archive", h.x.enter('a', 0), true);
        h.archive(1);
        h.dueContent(8, "\11");
    }

    private static void entersWhatFits() {
        House h = new House(CHECK, "240 bytes");
        // 2 + 100 + 13, 2 + 104 + 12 and 4 are 237, without the second name.
        h.entry("a", 0, new int[100]);
        h.draft(new int[104]);
        h.due("a name of four", h.x.enter(House.name("abcd"), 0), false);
        h.due("a name of three", h.x.enter(House.name("abc"), 0), true);
        h.due("no room for a name", h.x.enter('b', 0), false);
        h.archive(0);
        h.due("length", h.length(0), 240);
        h.due("content(1, 103)", h.x.content(1, 103), 0);
        h.due("content(1, 104)", h.x.content(1, 104), -1);
        h.text("b", "new").archive(1);
        h.due("length of the next one", h.length(1), 22);
        h.dueContent(8, "new");
    }

    private static void entersTheSums() {
        House h = new House(CHECK, "sums");
        int[][] packed = {House.bytes("A text of some bytes"), {}, {255, 0, 128},
            {3, 0}, {}, {7, 1}};
        int[] methods = {0, 0, 0, 8, 8, 8};
        int[] sums = {House.sum(packed[0]), 0, House.sum(packed[2]), 0, 0, 0};
        int[] sizes = {20, 0, 3, 0, 0, 0};
        for (int i = 0; i < 6; i++) {
            h.entry("e" + i, methods[i], packed[i]);
        }
        h.archive(3);
        int at = 0;
        int[] places = new int[6];
        for (int i = 0; i < 6; i++) {
            places[i] = at;
            h.due("mark of body " + i, h.x.peek(3, at), 75);
            h.due("method of body " + i, h.x.peek(3, at + 1), methods[i]);
            at += 2 + packed[i].length;
        }
        int directory = at;
        for (int i = 0; i < 6; i++) {
            int[] want = {2, 'e', '0' + i, methods[i], sums[i] & 255, sums[i] >>> 8 & 255,
                sums[i] >>> 16 & 255, sums[i] >>> 24, sizes[i], 0, packed[i].length, 0, places[i], 0};
            for (int k = 0; k < want.length; k++) {
                h.due("record " + i + ", byte " + k, h.x.peek(3, at + k), want[k]);
            }
            at += want.length;
        }
        int[] end = {80, 6, directory, 0, -1};
        for (int k = 0; k < end.length; k++) {
            h.due("end, byte " + k, h.x.peek(3, at + k), end[k]);
        }
        String[] contents = {"A text of some bytes", "", "\377\0\200", "", "-2", "-2"};
        for (int i = 0; i < 6; i++) {
            h.dueContent(24 + i, contents[i]);
        }
    }

    private static void writesAsTold() {
        House h = new House(CHECK, "bytes");
        h.entry("pqrs", 0, 1, 2, 3).archive(0);
        int sum = House.sum(new int[] {1, 2, 3});
        int[] want = {75, 0, 1, 2, 3, 4, 'p', 'q', 'r', 's', 0, sum & 255, sum >>> 8 & 255,
            sum >>> 16 & 255, sum >>> 24, 3, 0, 3, 0, 0, 0, 80, 1, 5, 0};
        for (int i = 0; i < want.length; i++) {
            h.due("peek(0, " + i + ")", h.x.peek(0, i), want[i]);
        }
        h.due("length", h.length(0), want.length);
        h.due("peek(0, -1)", h.x.peek(0, -1), -1);
        h.due("peek(-1, 0)", h.x.peek(-1, 0), -1);
        h.due("peek(4, 0)", h.x.peek(4, 0), -1);
        h.due("peek(1, 0)", h.x.peek(1, 0), -1);
        h.due("peek(0, huge)", h.x.peek(0, Integer.MAX_VALUE), -1);
        h.due("peek(0, lowest)", h.x.peek(0, Integer.MIN_VALUE), -1);
    }

    private static void finishesSlots() {
        House h = new House(CHECK, "slots");
        h.text("a", "kept");
        int[] wrong = {-1, 4, 5, Integer.MAX_VALUE, Integer.MIN_VALUE};
        for (int slot : wrong) {
            h.due("finish(" + slot + ")", h.x.finish(slot), false);
        }
        h.archive(3);
        h.dueContent(24, "kept");
        h.text("b", "later");
        h.due("finish(3) again", h.x.finish(3), false);
        h.dueContent(24, "kept");
        h.archive(0);
        h.dueContent(0, "later");
        h.archive(1).archive(2);
        h.due("length of an empty one", h.length(2), 4);
        h.due("an empty one again", h.x.finish(2), false);
    }

    private static void keepsTheDraftBehindFinish() {
        House h = new House(CHECK, "draft");
        h.draft('d', 'r').archive(0);
        h.draft('a', 'f', 't');
        h.due("enter", h.x.enter('a', 0), true);
        h.archive(1);
        h.dueContent(8, "draft");
    }

    private static void spoilsBytes() {
        House h = new House(CHECK, "spoil");
        h.text("ab", "content").archive(1);
        int n = h.length(1);
        h.due("spoil(1, 2, 255)", h.x.spoil(1, 2, 255), true);
        h.due("peek(1, 2)", h.x.peek(1, 2), 'c' ^ 255);
        h.dueContent(8, "-2");
        h.due("spoil(1, 2, 254)", h.x.spoil(1, 2, 254), true);
        h.due("peek(1, 2)", h.x.peek(1, 2), 'c' ^ 1);
        h.due("spoil(1, 2, 1)", h.x.spoil(1, 2, 1), true);
        h.dueContent(8, "content");
        h.due("spoil(1, 2, 0)", h.x.spoil(1, 2, 0), true);
        h.due("spoil(1, 2, 256)", h.x.spoil(1, 2, 256), false);
        h.due("spoil(1, 2, -1)", h.x.spoil(1, 2, -1), false);
        h.due("spoil(1, -1, 1)", h.x.spoil(1, -1, 1), false);
        h.due("spoil(1, n, 1)", h.x.spoil(1, n, 1), false);
        h.due("spoil(1, n, 0)", h.x.spoil(1, n, 0), false);
        h.due("spoil(0, 0, 1)", h.x.spoil(0, 0, 1), false);
        h.due("spoil(4, 0, 1)", h.x.spoil(4, 0, 1), false);
        h.due("spoil(-1, 0, 1)", h.x.spoil(-1, 0, 1), false);
        h.dueContent(8, "content");
        h.due("the last byte", h.x.spoil(1, n - 1, 3), true);
        h.due("peek the last byte", h.x.peek(1, n - 1), 3);
    }

    /** The archive here: body of a 0 .. 3, of b 4 .. 8, records at 9 and 22, the end at 35. */
    private static House two() {
        House h = new House(CHECK, "sound");
        h.text("a", "xy").text("b", "xyz").archive(0);
        h.dueContent(0, "xy");
        h.dueContent(1, "xyz");
        return h;
    }

    private static void dueUnsound(String what, int at, int value) {
        House h = two();
        int before = h.x.peek(0, at);
        h.set(0, at, value);
        CHECK.due(what + ": the content of 0", h.contentOf(0), "-2");
        CHECK.due(what + ": the content of 1", h.contentOf(1), "-2");
        h.loader(-1, 0);
        CHECK.due(what + ": all(0, b, 0)", h.x.all(0, 'b', 0), -1);
        h.set(0, at, before);
        CHECK.due(what + ": all(0, b, 0)", h.x.all(0, 'b', 0), 1);
    }

    private static void dueSound(String what, int at, int value, String first, String second) {
        House h = two();
        h.set(0, at, value);
        CHECK.due(what + ": the content of 0", h.contentOf(0), first);
        CHECK.due(what + ": the content of 1", h.contentOf(1), second);
    }

    private static void soundAndNot() {
        dueUnsound("no end mark", 35, 81);
        dueUnsound("fewer entries", 36, 1);
        dueUnsound("more entries", 36, 3);
        dueUnsound("far more entries", 36, 7);
        dueUnsound("most entries", 36, 255);
        dueUnsound("none", 36, 0);
        dueUnsound("directory before", 37, 8);
        dueUnsound("directory behind", 37, 10);
        dueUnsound("directory at the second record", 37, 22);
        dueUnsound("directory at the end", 37, 35);
        dueUnsound("directory behind all", 37, 200);
        dueUnsound("directory far behind", 38, 1);
        dueUnsound("no name", 9, 0);
        dueUnsound("longer name", 9, 2);
        dueUnsound("longest name", 22, 4);
        dueUnsound("name far too long", 9, 255);
        dueUnsound("a blank as name", 10, 32);
        dueUnsound("127 as name", 10, 127);
        dueUnsound("zero as name", 10, 0);
        dueUnsound("the same name", 10, 'b');
        dueUnsound("another method", 11, 8);
        dueUnsound("no method", 11, 1);
        dueUnsound("another method in the body", 1, 8);
        dueUnsound("another mark of a body", 0, 74);
        dueUnsound("another mark of the second body", 4, 0);
        dueUnsound("size above 200", 16, 201);
        dueUnsound("size of 256 more", 17, 1);
        dueUnsound("more packed bytes", 18, 3);
        dueUnsound("far more packed bytes", 19, 255);
        dueUnsound("packed bytes in the directory", 31, 4);
        dueUnsound("place of another body", 20, 4);
        dueUnsound("place in the body", 20, 1);
        dueUnsound("place behind all", 21, 1);
        dueUnsound("place far behind all", 21, 255);
        dueSound("fewer packed bytes", 18, 1, "-2", "xyz");
        dueSound("another size", 16, 3, "-2", "xyz");
        dueSound("size 200", 16, 200, "-2", "xyz");
        dueSound("another sum", 12, 0, "-2", "xyz");
        dueSound("another sum at its last byte", 15, 1, "-2", "xyz");
        dueSound("another name", 10, 'c', "xy", "xyz");
        dueSound("the last name", 10, 126, "xy", "xyz");
        dueSound("another byte", 2, 'y', "-2", "xyz");
        twoMethodsAreSound();
        emptyOnesAreSound();
    }

    /** Method 8 in the body and in the record: sound, but corrupt. */
    private static void twoMethodsAreSound() {
        House h = two();
        h.set(0, 1, 8).set(0, 11, 8);
        h.dueContent(0, "-2");
        h.dueContent(1, "xyz");
        House one = two();
        one.set(0, 1, 1).set(0, 11, 1);
        one.dueContent(1, "-2");
    }

    private static void emptyOnesAreSound() {
        House h = new House(CHECK, "empty");
        h.archive(0).text("M", "P:0\n").text("a", "b").archive(1).loader(-1, 0, 1);
        h.due("all", h.x.all(0, 'a', 0), 9);
        h.dueContent(0, "-2");
        h.set(0, 2, 1);
        h.due("all", h.x.all(0, 'a', 0), 9);
    }

    /** Bodies may lie in any order and leave bytes free, but have none in common. */
    private static void bodiesApart() {
        House h = new House(CHECK, "apart");
        h.entry("a", 0, 75, 0, 75, 0, 9).entry("b", 0, 1).archive(0);
        // The record of a from 10 on: its sum at 13, size 17, packed 19, place 21; b's from 23 on.
        h.due("place of a", h.x.peek(0, 21), 0);
        h.due("place of b", h.x.peek(0, 34), 7);
        h.set(0, 21, 2);
        h.dueContent(1, "-2");
        h.set(0, 19, 3);
        h.dueContent(1, "\1");
        h.dueContent(0, "-2");
        h.set(0, 17, 3);
        setSum(h, 0, 13, 75, 0, 9);
        h.dueContent(0, "K\0\11");
        h.set(0, 19, 1).set(0, 17, 1);
        setSum(h, 0, 13, 75);
        h.dueContent(0, "K");
        h.set(0, 34, 4);
        h.dueContent(0, "-2");
        h.set(0, 19, 0).set(0, 17, 0);
        setSum(h, 0, 13);
        h.dueContent(0, "");
        h.dueContent(1, "-2");
        setSum(h, 0, 26, 9);
        h.dueContent(1, "\11");
        h.set(0, 21, 4).set(0, 34, 2);
        h.dueContent(0, "-2");
        h.set(0, 32, 0).set(0, 30, 0);
        setSum(h, 0, 26);
        h.dueContent(0, "");
        h.dueContent(1, "");
        h.set(0, 34, 4);
        h.dueContent(0, "-2");
    }

    private static void setSum(House h, int slot, int at, int... content) {
        int sum = House.sum(content);
        for (int i = 0; i < 4; i++) {
            h.set(slot, at + i, sum >>> 8 * i & 255);
        }
    }

    private static void recordsAndNames() {
        House h = new House(CHECK, "twins");
        h.text("ab", "one").text("ab", "two").archive(0).loader(-1, 0);
        h.dueContent(0, "-2");
        h.due("all of twins", h.x.all(0, House.name("ab"), 0), -1);
        int directory = 10;
        h.set(0, directory + 1, 'c');
        h.dueContent(0, "one");
        h.dueContent(1, "two");
        h.due("all of the second", h.x.all(0, House.name("ab"), 0), 1);
        h.due("all of the first", h.x.all(0, House.name("cb"), 0), 0);
        h.set(0, directory + 2, 0);
        h.dueContent(1, "-2");
    }
}
