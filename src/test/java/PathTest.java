/** Promises 7, 8, 9, 14 and 15: open, append, close, all, content; readable archives and paths. */
public final class PathTest {
    private static final Check CHECK = new Check();

    public static void main(String[] args) {
        opensFour();
        appendsFour();
        closesOnce();
        manifestsAndNot();
        corruptManifests();
        deflatedManifest();
        readableAgain();
        contents();
        allOfOneLoader();
        allOfParents();
        closedLoaders();
        paths();
        pathsThatChange();
        versions();
        versionsOfLongNames();
        CHECK.end();
    }

    private static void opensFour() {
        House h = new House(CHECK, "open");
        int[] wrong = {0, 1, -2, 4, Integer.MAX_VALUE, Integer.MIN_VALUE};
        for (int parent : wrong) {
            h.due("open(" + parent + ") first", h.x.open(parent), -1);
        }
        h.due("open(-1)", h.x.open(-1), 0);
        int[] wrongLater = {-1, 1, -2, 4};
        for (int parent : wrongLater) {
            h.due("open(" + parent + ") second", h.x.open(parent), -1);
        }
        h.due("open(0)", h.x.open(0), 1);
        h.due("open(2)", h.x.open(2), -1);
        h.due("open(1)", h.x.open(1), 2);
        h.due("open(3)", h.x.open(3), -1);
        h.due("close(0)", h.x.close(0), true);
        h.due("open(0), which is closed", h.x.open(0), 3);
        h.due("a fifth", h.x.open(0), -1);
        h.due("a fifth without a parent", h.x.open(-1), -1);
    }

    private static void appendsFour() {
        House h = new House(CHECK, "append");
        h.loader(-1).loader(0);
        h.due("append(2, 0)", h.x.append(2, 0), false);
        h.due("append(-1, 0)", h.x.append(-1, 0), false);
        h.due("append(0, 4)", h.x.append(0, 4), false);
        h.due("append(0, -1)", h.x.append(0, -1), false);
        for (int i = 0; i < 4; i++) {
            h.due("append(0, 3)", h.x.append(0, 3), true);
        }
        h.due("a fifth", h.x.append(0, 3), false);
        h.due("append(1, 0)", h.x.append(1, 0), true);
        h.due("close(1)", h.x.close(1), true);
        h.due("append(1, 0) when it is closed", h.x.append(1, 0), false);
        h.text("a", "later").archive(3);
        h.due("an archive made later", h.x.all(0, 'a', 0), 24);
        h.due("it is there once", h.x.all(0, 'a', 1), -1);
    }

    private static void closesOnce() {
        House h = new House(CHECK, "close");
        h.due("close(0) without one", h.x.close(0), false);
        h.loader(-1).loader(0);
        h.due("close(-1)", h.x.close(-1), false);
        h.due("close(2)", h.x.close(2), false);
        h.due("close(1)", h.x.close(1), true);
        h.due("close(1) again", h.x.close(1), false);
        h.due("close(0)", h.x.close(0), true);
        h.due("close(0) again", h.x.close(0), false);
    }

    private static void dueManifest(String text, boolean want) {
        House h = new House(CHECK, "manifest <" + text.replace("\n", "|") + ">");
        h.text("a", "b").text("M", text).archive(0).loader(-1, 0);
        h.dueContent(0, want ? "b" : "-2");
        h.dueContent(1, want ? text : "-2");
        h.due("all(0, a, 0)", h.x.all(0, 'a', 0), want ? 0 : -1);
        h.due("all(0, M, 0)", h.x.all(0, 'M', 0), want ? 1 : -1);
    }

    private static void manifestsAndNot() {
        String[] good = {"", "P:0\n", "P:0123\n", "P:3210\n", "P:00\n", "P:\n", "Z:\n", "Z:abcd\n",
            "Z:aab\n", "V:Y\n", "V:\n Y\n", "P:0\n 1\n 23\n", "P:0\n \n 1\n", "A:\n", "A:xyz!~ \n",
            "Q:9z\nZ:a\n", "P:1\nZ:d\nV:Y\n", "X:123456\n", "X:\n 1234567\n", "X::::\n",
            "P:333333\n 333\n", "P:00123\n", "P:0123\n 0123\n", "X:a\n  b\n", "A:V\nB:V\nC:P\n", "V:Y\n \n"};
        for (String text : good) {
            dueManifest(text, true);
        }
        String[] bad = {"P:0", "\n", "P:0\n\n", "\nP:0\n", "P:4\n", "P:/\n", "P:a\n", "P: 0\n",
            "P:0 \n", "P:0\n  1\n", "Z:e\n", "Z:A\n", "Z:`\n", "Z:a b\n", "V:N\n", "V:\n", "V:YY\n",
            "V:Y \n", "V:Y\n Y\n", "V:Y\n  \n", "V:y\n", " \n", " P:0\n", "P:0\nP:1\n",
            "A:x\nA:y\n", "A:\nB:\nA:\n", "P\n", "P0\n", "P;0\n", "p:0\n", "@:0\n", "[:0\n",
            "1:0\n", "X:1234567\n", "X:\n 12345678\n", "X:\t\n", "X:\177\n", "X:\37\n", "X:\r\n",
            "X:\377\n", "X:\0\n", "A\n :x\n", "A:x\nb\n", ":A\n", "A:x\n  \nB", "X:\n \177\n",
            "P:\n 4\n", "Z:\n x\n", "V:\n \n"};
        for (String text : bad) {
            dueManifest(text, false);
        }
    }

    private static void corruptManifests() {
        House h = new House(CHECK, "corrupt manifest");
        h.text("a", "b").text("M", "A:x\n").archive(0).loader(-1, 0);
        h.dueContent(0, "b");
        h.set(0, 5 + 2, 'y');
        h.dueContent(0, "-2");
        h.dueContent(1, "-2");
        h.due("all(0, a, 0)", h.x.all(0, 'a', 0), -1);
        h.set(0, 5 + 2, 'x');
        h.set(0, 2, 'c');
        h.dueContent(0, "-2");
        h.dueContent(1, "A:x\n");
        h.due("a corrupt entry is told", h.x.all(0, 'a', 0), 0);
    }

    private static void deflatedManifest() {
        House h = new House(CHECK, "deflated manifest");
        h.entry("M", 8, new Bits().block(true, 1).letters("P:2\n").letter(256).bytes());
        h.archive(0).entry("M", 8, 1, 2).text("a", "1").archive(1).text("a", "2").archive(2);
        h.loader(-1, 1, 0);
        h.due("all(0, a, 0)", h.x.all(0, 'a', 0), 16);
        h.due("all(0, a, 1)", h.x.all(0, 'a', 1), -1);
        h.dueContent(9, "-2");
    }

    /** A manifest that is spoiled and mended loses and gets back what it says. */
    private static void readableAgain() {
        House h = new House(CHECK, "again");
        h.text("M", "V:Y\nP:1\n").text("a", "1").text("3a", "3").archive(0);
        h.text("a", "2").archive(1).loader(-1, 0);
        h.due("all(0, a, 0)", h.x.all(0, 'a', 0), 2);
        h.due("all(0, a, 1)", h.x.all(0, 'a', 1), 8);
        h.due("spoil", h.x.spoil(0, 2, 3), true);
        h.due("all(0, a, 0) spoiled", h.x.all(0, 'a', 0), -1);
        h.due("spoil back", h.x.spoil(0, 2, 3), true);
        h.due("all(0, a, 0) mended", h.x.all(0, 'a', 0), 2);
        h.due("all(0, a, 1) mended", h.x.all(0, 'a', 1), 8);
        // The name M becomes N: then it has no manifest.
        int record = 16;
        h.due("the name M", h.x.peek(0, record + 1), 'M');
        h.set(0, record + 1, 'N');
        h.due("all(0, a, 0) without M", h.x.all(0, 'a', 0), 1);
        h.due("all(0, a, 1) without M", h.x.all(0, 'a', 1), -1);
        startsAnew();
    }

    /** What an earlier reading of a manifest has left does not count. */
    private static void startsAnew() {
        House h = new House(CHECK, "blank first");
        h.text("M", "A:x\nB:\n").text("a", "1").archive(0);
        h.dueContent(1, "1");
        h.set(0, 2, ' ');
        int sum = House.sum(House.bytes(" :x\nB:\n"));
        for (int i = 0; i < 4; i++) {
            h.set(0, 12 + 3 + i, sum >>> 8 * i & 255);
        }
        h.dueContent(1, "-2");
        h.set(0, 12 + 1, 'N');
        h.dueContent(0, " :x\nB:\n");
        h.dueContent(1, "1");
    }

    private static void contents() {
        House h = new House(CHECK, "content");
        h.text("a", "xyz").text("b", "").archive(2);
        int[] wrong = {-1, 0, 15, 18, 23, 24, 32, 48, Integer.MAX_VALUE, Integer.MIN_VALUE, -16};
        for (int place : wrong) {
            h.due("content(" + place + ", 0)", h.x.content(place, 0), -2);
            h.due("content(" + place + ", -1)", h.x.content(place, -1), -2);
        }
        h.due("content(16, 0)", h.x.content(16, 0), 'x');
        h.due("content(16, 2)", h.x.content(16, 2), 'z');
        int[] none = {3, -1, 200, 1000, Integer.MAX_VALUE, Integer.MIN_VALUE};
        for (int i : none) {
            h.due("content(16, " + i + ")", h.x.content(16, i), -1);
            h.due("content(17, " + i + ")", h.x.content(17, i), -1);
        }
        h.due("content(17, 0)", h.x.content(17, 0), -1);
        h.due("spoil", h.x.spoil(2, 2, 1), true);
        h.due("content(16, 0) corrupt", h.x.content(16, 0), -2);
        h.due("content(16, 9) corrupt", h.x.content(16, 9), -2);
        h.due("content(16, -1) corrupt", h.x.content(16, -1), -2);
        h.due("content(17, 0) not corrupt", h.x.content(17, 0), -1);
    }

    private static void allOfOneLoader() {
        House h = new House(CHECK, "all");
        h.text("x", "1").text("a", "2").archive(0).text("a", "3").archive(1);
        h.text("b", "4").archive(3).loader(-1, 1, 3, 0, 1);
        h.due("all(0, a, 0)", h.x.all(0, 'a', 0), 8);
        h.due("all(0, a, 1)", h.x.all(0, 'a', 1), 1);
        h.due("all(0, a, 2)", h.x.all(0, 'a', 2), -1);
        h.due("all(0, b, 0)", h.x.all(0, 'b', 0), 24);
        h.due("all(0, a, -1)", h.x.all(0, 'a', -1), -1);
        h.due("all(0, a, lowest)", h.x.all(0, 'a', Integer.MIN_VALUE), -1);
        h.due("all(0, a, highest)", h.x.all(0, 'a', Integer.MAX_VALUE), -1);
        h.due("all(0, a, 16)", h.x.all(0, 'a', 16), -1);
        h.due("all(1, a, 0)", h.x.all(1, 'a', 0), -1);
        int[] noLoaders = {-1, 3, 4, 5, Integer.MAX_VALUE, Integer.MIN_VALUE};
        for (int loader : noLoaders) {
            h.due("all(" + loader + ", a, 0)", h.x.all(loader, 'a', 0), -1);
        }
        h.due("all(0, 0, 0)", h.x.all(0, 0, 0), -1);
        h.due("all(0, 32, 0)", h.x.all(0, 32, 0), -1);
        h.due("all(0, -1, 0)", h.x.all(0, -1, 0), -1);
        h.due("all(0, c, 0)", h.x.all(0, 'c', 0), -1);
        h.dueFault(0, -1);
    }

    private static void allOfParents() {
        House h = new House(CHECK, "parents");
        for (int slot = 0; slot < 4; slot++) {
            h.text("a", "" + slot).archive(slot);
        }
        h.loader(-1, 0, 1, 2, 3).loader(0, 3, 2, 1, 0).loader(1, 2, 3, 0, 1).loader(2, 1, 0, 3, 2);
        int[] want = {0, 1, 2, 3, 3, 2, 1, 0, 2, 3, 0, 1, 1, 0, 3, 2};
        for (int loader = 0; loader < 4; loader++) {
            for (int k = 0; k < 17; k++) {
                h.due("all(" + loader + ", a, " + k + ")", h.x.all(loader, 'a', k),
                        k < 4 * loader + 4 ? 8 * want[k] : -1);
            }
        }
        House other = new House(CHECK, "other parents");
        other.text("a", "0").archive(0).text("a", "1").archive(1).text("a", "2").archive(2);
        other.loader(-1, 0).loader(0, 1).loader(0, 2);
        other.due("all(2, a, 0)", other.x.all(2, 'a', 0), 0);
        other.due("all(2, a, 1)", other.x.all(2, 'a', 1), 16);
        other.due("all(2, a, 2)", other.x.all(2, 'a', 2), -1);
    }

    private static void closedLoaders() {
        House h = new House(CHECK, "closed");
        h.text("a", "0").archive(0).text("a", "1").archive(1).text("a", "2").archive(2);
        h.loader(-1, 0).loader(0, 1).loader(1, 2);
        h.due("close(1)", h.x.close(1), true);
        h.due("all(2, a, 0)", h.x.all(2, 'a', 0), 0);
        h.due("all(2, a, 1)", h.x.all(2, 'a', 1), 16);
        h.due("all(1, a, 0)", h.x.all(1, 'a', 0), 0);
        h.due("all(1, a, 1)", h.x.all(1, 'a', 1), -1);
        h.due("close(0)", h.x.close(0), true);
        h.due("all(0, a, 0)", h.x.all(0, 'a', 0), -1);
        h.due("all(2, a, 0)", h.x.all(2, 'a', 0), 16);
    }

    /** Tells the order of archives in a path by what all() finds. */
    private static void duePath(String what, String[] manifests, int[] appended, int... want) {
        House h = new House(CHECK, what);
        for (int slot = 0; slot < 4; slot++) {
            if (manifests[slot] != null) {
                h.text("a", "" + slot).text("M", manifests[slot]).archive(slot);
            }
        }
        h.loader(-1, appended);
        for (int k = 0; k < want.length; k++) {
            h.due("all(0, a, " + k + ")", h.x.all(0, 'a', k), 8 * want[k]);
        }
        h.due("all(0, a, " + want.length + ")", h.x.all(0, 'a', want.length), -1);
    }

    private static void paths() {
        duePath("as appended", new String[] {"", "", "", ""}, new int[] {2, 0, 3}, 2, 0, 3);
        duePath("behind each one", new String[] {"P:3\n", "P:2\n", "", ""}, new int[] {0, 1},
                0, 3, 1, 2);
        duePath("likewise", new String[] {"P:13\n", "P:2\n", "", ""}, new int[] {0}, 0, 1, 2, 3);
        duePath("a chain", new String[] {"P:3\n", "", "P:1\n", "P:2\n"}, new int[] {0}, 0, 3, 2, 1);
        duePath("where it comes first", new String[] {"P:2\n", "", "", ""}, new int[] {0, 1, 2},
                0, 2, 1);
        duePath("appended first", new String[] {"P:2\n", "", "", ""}, new int[] {2, 0, 1}, 2, 0, 1);
        duePath("itself", new String[] {"P:0\n", "", "", ""}, new int[] {0}, 0);
        duePath("in a circle", new String[] {"P:12\n", "P:20\n", "P:01\n", ""}, new int[] {1},
                1, 2, 0);
        duePath("all name all", new String[] {"P:0123\n", "P:0123\n", "P:0123\n", "P:3210\n"},
                new int[] {3, 2, 1, 0}, 3, 2, 0, 1);
        duePath("lines that go on", new String[] {"P:3\n 2\n 1\n", "", "", ""}, new int[] {0},
                0, 3, 2, 1);
        duePath("other lines", new String[] {"Q:3\nP:1\nZ:a\n b\n", "", "", ""}, new int[] {0},
                0, 1);
        duePath("one not readable", new String[] {"P:1\n", "P:2\n ", "", ""}, new int[] {0}, 0);
        duePath("one not readable first", new String[] {"P:1", "", "P:0\n", "P:1\n"},
                new int[] {0, 2, 3}, 2, 3, 1);
        duePath("one not there", new String[] {"P:12\n", null, "", ""}, new int[] {1, 0}, 0, 2);
        duePath("named by one not readable", new String[] {"P:3\nx", "P:3\n", "", "P:2\n"},
                new int[] {0, 2, 1}, 2, 1, 3);
    }

    private static void pathsThatChange() {
        House h = new House(CHECK, "changed paths");
        h.text("M", "P:13\n").text("a", "0").archive(0).text("a", "1").archive(1).loader(-1, 0);
        h.due("all(0, a, 1)", h.x.all(0, 'a', 1), 8);
        h.due("all(0, a, 2)", h.x.all(0, 'a', 2), -1);
        h.text("a", "3").archive(3);
        h.due("all(0, a, 2) when 3 is there", h.x.all(0, 'a', 2), 24);
        h.due("spoil the end of 1", h.x.spoil(1, h.length(1) - 4, 1), true);
        h.due("all(0, a, 1) without 1", h.x.all(0, 'a', 1), 24);
        h.due("all(0, a, 2) without 1", h.x.all(0, 'a', 2), -1);
        h.due("mend", h.x.spoil(1, h.length(1) - 4, 1), true);
        h.due("all(0, a, 2) mended", h.x.all(0, 'a', 2), 24);
    }

    private static void versions() {
        House h = new House(CHECK, "versions");
        h.text("bA", "1").text("2bA", "2").text("3bA", "3").text("2bB", "4").text("3c", "5");
        h.text("M", "V:Y\n").archive(0);
        h.text("bA", "1").text("2bA", "2").text("3bA", "3").text("bB", "4").archive(1);
        h.text("2bA", "2").text("bA", "1").text("M", "Z:a\n").text("1bA", "").archive(2);
        h.text("M", "V:Y\n").text("2bA", "2").text("bA", "1").text("bB", "3").archive(3);
        h.loader(-1, 0).loader(0, 1).loader(1, 2).loader(2, 3);
        int name = House.name("bA");
        int[] want = {2, 8, 17, 25, -1};
        for (int k = 0; k < want.length; k++) {
            h.due("all(3, bA, " + k + ")", h.x.all(3, name, k), want[k]);
        }
        int[] wantB = {3, 11, 27, -1};
        for (int k = 0; k < wantB.length; k++) {
            h.due("all(3, bB, " + k + ")", h.x.all(3, House.name("bB"), k), wantB[k]);
        }
        h.due("all(0, c, 0)", h.x.all(0, 'c', 0), 4);
        h.due("all(0, 2bA, 0)", h.x.all(0, House.name("2bA"), 0), 1);
        h.due("all(0, M, 0)", h.x.all(0, 'M', 0), 5);
    }

    private static void versionsOfLongNames() {
        House h = new House(CHECK, "long names");
        h.text("M", "V:Y\n").text("bcde", "1").text("3bcd", "2").text("2cde", "3");
        h.text("cde", "4").archive(0).loader(-1, 0);
        h.due("all(0, bcde, 0)", h.x.all(0, House.name("bcde"), 0), 1);
        h.due("all(0, bcd, 0)", h.x.all(0, House.name("bcd"), 0), 2);
        h.due("all(0, cde, 0)", h.x.all(0, House.name("cde"), 0), 3);
        h.due("all(0, cdef, 0)", h.x.all(0, House.name("cdef"), 0), -1);
        h.due("all(0, 3bcd, 0)", h.x.all(0, House.name("3bcd"), 0), 2);
        h.due("all(0, M, 0)", h.x.all(0, 'M', 0), 0);
        House m = new House(CHECK, "3M");
        m.text("3M", "V:Y\n").text("a", "1").text("3a", "2").archive(0).loader(-1, 0);
        m.due("3M is no manifest", m.x.all(0, 'a', 0), 1);
        House both = new House(CHECK, "M and 3M");
        both.text("3M", "no").text("M", "V:Y\n").archive(0).loader(-1, 0);
        both.due("M as 3M", both.x.all(0, 'M', 0), 0);
    }
}
