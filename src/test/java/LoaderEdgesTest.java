/** The boundary cases of promises 7, 8, 9, 14 and 15, and of the terms about paths. */
public final class LoaderEdgesTest {
    private static final Check CHECK = new Check();
    private static final int LOWEST = Integer.MIN_VALUE;
    private static final int HIGHEST = Integer.MAX_VALUE;

    public static void main(String[] args) {
        theFirstHasNoParent();
        othersHaveAParent();
        fourLoadersAtMost();
        appendsToLoadersThatAre();
        appendsSlots0To3();
        appendsFourAtMost();
        appendsToNoClosedOne();
        appendsWhatIsNotThereYet();
        closesLoadersThatAre();
        closesOnce();
        closedPathsAreNotSearched();
        pathInOrder();
        pathLikewise();
        pathWhereItComesFirst();
        pathWithOnesNotReadable();
        versionsInOrder();
        versionsOfLongNames();
        allFrom0On();
        allWithoutLoaderOrName();
        allOfParentsFirst();
        allOneOfEachArchive();
        contentFrom0On();
        contentOfNoEntry();
        contentOfCorruptOnes();
        CHECK.end();
    }

    private static House house(String about) {
        return new House(CHECK, about);
    }

    /** Promise 7: "or parent is not as it must be (NONE for the first one)". */
    private static void theFirstHasNoParent() {
        House h = house("the first loader");
        int[] wrong = {LOWEST, -2, 0, 1, 2, 3, 4, HIGHEST};
        for (int parent : wrong) {
            h.due("open(" + parent + ")", h.x.open(parent), -1);
        }
        h.due("append(0, 0) without one", h.x.append(0, 0), false);
        h.due("open(-1)", h.x.open(-1), 0);
        h.due("append(0, 0)", h.x.append(0, 0), true);
    }

    /** Terms: "all but 0 have a PARENT, a loader made before". */
    private static void othersHaveAParent() {
        for (int n = 1; n <= 3; n++) {
            for (int parent = -2; parent <= 5; parent++) {
                House h = house(n + " loaders, open(" + parent + ")");
                h.due("open(-1)", h.x.open(-1), 0);
                for (int i = 1; i < n; i++) {
                    h.due("open(0)", h.x.open(0), i);
                }
                boolean fits = parent >= 0 && parent < n;
                h.due("open", h.x.open(parent), fits ? n : -1);
                h.due("close of a new one", h.x.close(n), fits);
            }
        }
        House h = house("a parent far out");
        h.loader(-1);
        h.due("open(lowest)", h.x.open(LOWEST), -1);
        h.due("open(highest)", h.x.open(HIGHEST), -1);
        h.due("close(0)", h.x.close(0), true);
        h.due("open(0) when that is closed", h.x.open(0), 1);
    }

    /** Promise 7: "NONE if there are 4". */
    private static void fourLoadersAtMost() {
        for (int parent = 0; parent <= 3; parent++) {
            House h = house("a fifth below " + parent);
            h.loader(-1).loader(0).loader(1);
            h.due("open(2)", h.x.open(2), 3);
            h.due("open(" + parent + ")", h.x.open(parent), -1);
            h.due("open(-1)", h.x.open(-1), -1);
            h.due("open(4)", h.x.open(4), -1);
            h.due("append(4, 0)", h.x.append(4, 0), false);
            h.due("append(3, 0)", h.x.append(3, 0), true);
            for (int k = 0; k <= 3; k++) {
                h.due("close(" + k + ")", h.x.close(k), true);
            }
            h.due("open when all are closed", h.x.open(parent), -1);
        }
    }

    /** Promise 8: "false if there is no such loader". */
    private static void appendsToLoadersThatAre() {
        House h = house("append to");
        for (int n = 0; n <= 4; n++) {
            int[] loaders = {LOWEST, -1, 0, 1, 2, 3, 4, 5, HIGHEST};
            for (int loader : loaders) {
                boolean there = loader >= 0 && loader < n;
                // Each loader gets one when it is the newest, so that none is full.
                boolean fits = there && loader == n - 1;
                if (!there || fits) {
                    h.due("append(" + loader + ", 1) of " + n, h.x.append(loader, 1), fits);
                }
            }
            if (n < 4) {
                h.due("open", h.x.open(n - 1), n);
            }
        }
        h.text("a", "x").archive(1);
        for (int k = 0; k < 4; k++) {
            h.due("all(" + k + ", a, " + k + ")", h.x.all(k, 'a', k), 8);
            h.due("all(" + k + ", a, " + (k + 1) + ")", h.x.all(k, 'a', k + 1), -1);
        }
    }

    /** Promise 8: "or slot". */
    private static void appendsSlots0To3() {
        House h = house("append slots");
        h.loader(-1);
        int[] wrong = {LOWEST, -4, -1, 4, 5, 8, 256, HIGHEST};
        for (int slot : wrong) {
            h.due("append(0, " + slot + ")", h.x.append(0, slot), false);
        }
        for (int slot = 0; slot < 4; slot++) {
            h.due("append(0, " + slot + ")", h.x.append(0, slot), true);
        }
        for (int slot = 0; slot < 4; slot++) {
            h.text("a", "" + slot).archive(slot);
            h.due("all", h.x.all(0, 'a', slot), 8 * slot);
        }
    }

    /** Promise 8: "or 4 were", for each loader; the same archive counts each time. */
    private static void appendsFourAtMost() {
        for (int n = 3; n <= 6; n++) {
            House h = house(n + " appended");
            h.loader(-1).loader(0);
            h.text("a", "x").archive(0).text("b", "y").archive(1);
            for (int i = 0; i < n; i++) {
                h.due("append(0, 0) " + i, h.x.append(0, 0), i < 4);
            }
            h.due("append(0, 1)", h.x.append(0, 1), n < 4);
            h.due("all(0, b, 0)", h.x.all(0, 'b', 0), n < 4 ? 8 : -1);
            h.due("all(0, a, 0)", h.x.all(0, 'a', 0), 0);
            h.due("all(0, a, 1)", h.x.all(0, 'a', 1), -1);
            h.due("append(1, 1)", h.x.append(1, 1), true);
        }
    }

    /** Promise 8: "it is closed". */
    private static void appendsToNoClosedOne() {
        House h = house("append to a closed one");
        h.loader(-1).loader(0).text("a", "x").archive(0);
        h.due("close(1)", h.x.close(1), true);
        h.due("append(1, 0)", h.x.append(1, 0), false);
        h.due("append(0, 0)", h.x.append(0, 0), true);
        h.due("all(1, a, 0)", h.x.all(1, 'a', 0), 0);
        h.due("all(1, a, 1)", h.x.all(1, 'a', 1), -1);
        h.due("close(0)", h.x.close(0), true);
        h.due("append(0, 0)", h.x.append(0, 0), false);
    }

    /** Promise 8: "An archive (also one that is not there yet)". */
    private static void appendsWhatIsNotThereYet() {
        House h = house("not there yet");
        h.loader(-1, 3, 2);
        h.due("all(0, a, 0)", h.x.all(0, 'a', 0), -1);
        h.fails(0, "aA", 1, "aA");
        h.text("a", "x").archive(2);
        h.due("all(0, a, 0) with 2", h.x.all(0, 'a', 0), 16);
        h.simple("aA", "").text("a", "y").archive(3);
        h.due("all(0, a, 0) with 3", h.x.all(0, 'a', 0), 25);
        h.due("all(0, a, 1) with 3", h.x.all(0, 'a', 1), 16);
        h.loads(0, "aA", 0);
    }

    /** Promise 9: "false if there is none". */
    private static void closesLoadersThatAre() {
        House h = house("close");
        for (int n = 0; n <= 4; n++) {
            int[] none = {LOWEST, -1, n, n + 1, 4, 5, HIGHEST};
            for (int loader : none) {
                h.due("close(" + loader + ") of " + n, h.x.close(loader), false);
            }
            if (n < 4) {
                h.due("open", h.x.open(n - 1), n);
            }
        }
        for (int k = 3; k >= 0; k--) {
            h.due("close(" + k + ")", h.x.close(k), true);
        }
    }

    /** Promise 9: "or it is closed". */
    private static void closesOnce() {
        for (int first = 0; first < 4; first++) {
            House h = house("close " + first + " first");
            h.loader(-1).loader(0).loader(0).loader(1);
            h.due("close", h.x.close(first), true);
            for (int k = 0; k < 4; k++) {
                h.due("close(" + k + ")", h.x.close(k), k != first);
                h.due("close(" + k + ") again", h.x.close(k), false);
            }
        }
    }

    /** Terms: "A closed loader's path is not searched", but its parent's and its children's. */
    private static void closedPathsAreNotSearched() {
        for (int closed = 0; closed < 3; closed++) {
            House h = house("closed " + closed);
            h.simple("aA", "").text("x", "").archive(0).loader(-1, 0);
            h.loads(0, "aA", 0);
            h.simple("bA", "aA").text("x", "").archive(1).loader(0, 1);
            h.simple("cA", "aA").text("x", "").archive(2).loader(1, 2);
            h.due("close", h.x.close(closed), true);
            int k = 0;
            for (int slot = 0; slot < 3; slot++) {
                if (slot != closed) {
                    h.due("all(2, x, " + k + ")", h.x.all(2, 'x', k), 8 * slot + 1);
                    k++;
                }
            }
            h.due("all(2, x, 2)", h.x.all(2, 'x', 2), -1);
            h.due("what it has", h.x.content(8 * closed + 1, 0), -1);
            h.loads(2, "aA", 0);
            if (closed == 1) {
                h.fails(2, "bA", 1, "bA");
            } else {
                h.loads(2, "bA", 1);
            }
        }
    }

    /** Tells the order of archives in the path of a loader by what all() finds of each. */
    private static void duePath(String what, String[] manifests, int[] appended, int... want) {
        House h = house(what);
        for (int slot = 0; slot < 4; slot++) {
            if (manifests[slot] != null) {
                h.text("a", "").text("M", manifests[slot]).archive(slot);
            }
        }
        h.loader(-1, appended);
        for (int k = 0; k <= want.length; k++) {
            h.due("all(0, a, " + k + ")", h.x.all(0, 'a', k),
                    k < want.length ? 8 * want[k] : -1);
        }
    }

    private static String[] row(String... manifests) {
        return manifests;
    }

    private static int[] row(int... slots) {
        return slots;
    }

    /** Terms: "the archives appended to it, in order", from none to four. */
    private static void pathInOrder() {
        String[] plain = row("", "", "", "");
        duePath("none", plain, new int[0]);
        duePath("one", plain, row(3), 3);
        duePath("four", plain, row(3, 1, 0, 2), 3, 1, 0, 2);
        duePath("one four times", plain, row(2, 2, 2, 2), 2);
    }

    /** Terms: "behind each one that is readable those that its P names, likewise". */
    private static void pathLikewise() {
        duePath("P names none", row("P:\n", "", "", ""), row(0, 1), 0, 1);
        duePath("P names one", row("P:3\n", "", "", ""), row(0, 1), 0, 3, 1);
        duePath("P names all", row("P:3210\n", "", "", ""), row(0), 0, 3, 2, 1);
        duePath("a chain of four", row("P:1\n", "P:2\n", "P:3\n", ""), row(0), 0, 1, 2, 3);
        duePath("a chain back", row("", "P:0\n", "P:1\n", "P:2\n"), row(3), 3, 2, 1, 0);
        duePath("a chain before the next one", row("P:13\n", "P:2\n", "", ""), row(0), 0, 1, 2, 3);
        duePath("named before appended", row("P:2\n", "P:3\n", "", ""), row(0, 1), 0, 2, 1, 3);
    }

    /** Terms: "each archive only where it comes first". */
    private static void pathWhereItComesFirst() {
        duePath("itself", row("P:0\n", "", "", ""), row(0), 0);
        duePath("the same twice", row("P:11\n", "", "", ""), row(0), 0, 1);
        duePath("each other", row("P:1\n", "P:0\n", "", ""), row(1, 0), 1, 0);
        duePath("all in a circle", row("P:1\n", "P:2\n", "P:3\n", "P:0\n"), row(2), 2, 3, 0, 1);
        duePath("named, then appended", row("P:2\n", "", "", ""), row(0, 1, 2), 0, 2, 1);
        duePath("appended, then named", row("P:2\n", "", "", ""), row(2, 1, 0), 2, 1, 0);
        duePath("deep before late", row("P:12\n", "P:3\n", "P:3\n", ""), row(0), 0, 1, 3, 2);
        duePath("all name all", row("P:0123\n", "P:0123\n", "P:0123\n", "P:0123\n"),
                row(3, 3, 3, 3), 3, 0, 1, 2);
    }

    /** Terms: "Of these the readable ones are searched", and only their P is followed. */
    private static void pathWithOnesNotReadable() {
        duePath("none readable", row("x", "x", "x", "x"), row(0, 1, 2, 3));
        duePath("its P is not followed", row("P:1", "", "", ""), row(0, 2), 2);
        duePath("named by a readable one", row("P:1\n", "x", "", ""), row(0, 2), 0, 2);
        duePath("one not there in a chain", row("P:1\n", null, "", ""), row(0, 2), 0, 2);
        duePath("not readable first, then named", row("x", "P:02\n", "", ""), row(0, 1), 1, 2);
    }

    /** Terms: "as 3x if there is that one, else as 2x if there is that one, else as x". */
    private static void versionsInOrder() {
        for (int set = 0; set < 8; set++) {
            for (int v = 0; v <= 1; v++) {
                House h = house("entries " + set + (v == 1 ? " and V" : ""));
                h.text("M", v == 1 ? "V:Y\n" : "Z:a\n").text("1bA", "").text("4bA", "");
                int[] places = {-1, -1, -1};
                String[] names = {"bA", "2bA", "3bA"};
                int record = 3;
                for (int i = 0; i < 3; i++) {
                    if ((set >> i & 1) == 1) {
                        h.text(names[i], "");
                        places[i] = record;
                        record++;
                    }
                }
                h.archive(0).loader(-1, 0);
                int want = v == 0 ? places[0] : places[2] >= 0 ? places[2]
                        : places[1] >= 0 ? places[1] : places[0];
                h.due("all(0, bA, 0)", h.x.all(0, House.name("bA"), 0), want);
                h.due("all(0, bA, 1)", h.x.all(0, House.name("bA"), 1), -1);
                h.due("all(0, 3bA, 0)", h.x.all(0, House.name("3bA"), 0), places[2]);
            }
        }
    }

    /** A name of three bytes has room for a digit before it, one of four has none. */
    private static void versionsOfLongNames() {
        String[] names = {"b", "bc", "bcd", "bcde"};
        for (String name : names) {
            House h = house("versions of " + name);
            String other = ("3" + name).substring(0, Math.min(name.length() + 1, 4));
            h.text("M", "V:Y\n").text(name, "").text(other, "").archive(0).loader(-1, 0);
            h.due("all(0, " + name + ", 0)", h.x.all(0, House.name(name), 0),
                    name.length() < 4 ? 2 : 1);
        }
        House own = house("names that begin with a digit");
        own.text("M", "V:Y\n").text("3a", "").text("33a", "").text("23a", "").archive(0);
        own.loader(-1, 0);
        own.due("all(0, 3a, 0)", own.x.all(0, House.name("3a"), 0), 2);
        own.due("all(0, a, 0)", own.x.all(0, 'a', 0), 1);
    }

    /** Promise 14: "The place of entry k of that name, from 0 on .. NONE if there is none". */
    private static void allFrom0On() {
        for (int n = 0; n <= 4; n++) {
            House h = house(n + " entries");
            for (int slot = 0; slot < 4; slot++) {
                h.text("x", "").text(slot < n ? "a" : "b", "").archive(slot);
            }
            h.loader(-1, 0, 1, 2, 3);
            int[] none = {LOWEST, -8, -1, n, n + 1, 16, 17, 32, HIGHEST};
            for (int k : none) {
                h.due("all(0, a, " + k + ")", h.x.all(0, 'a', k), -1);
            }
            for (int k = 0; k < n; k++) {
                h.due("all(0, a, " + k + ")", h.x.all(0, 'a', k), 8 * k + 1);
            }
        }
        House last = house("the sixth record");
        for (int i = 0; i < 6; i++) {
            last.text("e" + i, "");
        }
        last.archive(3).loader(-1, 3);
        last.due("all(0, e0, 0)", last.x.all(0, House.name("e0"), 0), 24);
        last.due("all(0, e5, 0)", last.x.all(0, House.name("e5"), 0), 29);
    }

    /** Promise 14: "or no such loader or name". */
    private static void allWithoutLoaderOrName() {
        House h = house("no loader or name");
        h.text("a", "").text("!~!~", "").archive(0);
        h.due("all(0, a, 0) without loaders", h.x.all(0, 'a', 0), -1);
        h.loader(-1, 0);
        h.due("all(0, a, 0)", h.x.all(0, 'a', 0), 0);
        int[] loaders = {LOWEST, -1, 1, 2, 3, 4, HIGHEST};
        for (int loader : loaders) {
            h.due("all(" + loader + ", a, 0)", h.x.all(loader, 'a', 0), -1);
        }
        h.due("all(0, !~!~, 0)", h.x.all(0, House.name("!~!~"), 0), 1);
        int[] names = {LOWEST, -1, 0, 32, 127, 'a' << 8, 'a' | 1 << 8, 'a' | 128 << 8,
            'a' | 1 << 16, 'a' | 1 << 24, 'a' | 'a' << 16, HIGHEST};
        for (int name : names) {
            h.due("all(0, " + name + ", 0)", h.x.all(0, name, 0), -1);
        }
        h.dueFault(0, -1);
    }

    /** Promise 14: "its parent's first, then its path's", up to four loaders with four archives. */
    private static void allOfParentsFirst() {
        House h = house("parents first");
        for (int slot = 0; slot < 4; slot++) {
            h.text("a", "").archive(slot);
        }
        int[][] paths = {{3, 2, 1, 0}, {0, 1, 2, 3}, {1, 3, 0, 2}, {2, 0, 3, 1}};
        for (int k = 0; k < 4; k++) {
            h.loader(k - 1, paths[k]);
        }
        for (int k = 0; k < 4; k++) {
            for (int i = 0; i <= 4 * k + 4; i++) {
                h.due("all(" + k + ", a, " + i + ")", h.x.all(k, 'a', i),
                        i < 4 * k + 4 ? 8 * paths[i / 4][i % 4] : -1);
            }
        }
        House wide = house("not its brother's");
        wide.text("a", "").archive(1).text("a", "").archive(2).text("a", "").archive(3);
        wide.loader(-1).loader(0, 1).loader(0, 2).loader(2, 3);
        wide.due("all(3, a, 0)", wide.x.all(3, 'a', 0), 16);
        wide.due("all(3, a, 1)", wide.x.all(3, 'a', 1), 24);
        wide.due("all(3, a, 2)", wide.x.all(3, 'a', 2), -1);
        wide.due("all(0, a, 0)", wide.x.all(0, 'a', 0), -1);
    }

    /** Promise 14: "one of each archive", for each loader whose path it is on. */
    private static void allOneOfEachArchive() {
        House h = house("one of each");
        h.text("M", "V:Y\nP:0\n").text("a", "").text("2a", "").text("3a", "").archive(0);
        h.loader(-1, 0, 0, 0).loader(0, 0);
        h.due("all(0, a, 0)", h.x.all(0, 'a', 0), 3);
        h.due("all(0, a, 1)", h.x.all(0, 'a', 1), -1);
        h.due("all(1, a, 1)", h.x.all(1, 'a', 1), 3);
        h.due("all(1, a, 2)", h.x.all(1, 'a', 2), -1);
    }

    /** Promise 15: "-1 if it has not so many, or i is below 0". */
    private static void contentFrom0On() {
        House h = house("content");
        h.text("a", "").text("b", "x").text("c", "xyz");
        h.entry("d", 8, new Bits().block(true, 1).letter('q').letter(283).number(4, 5).distance(0)
                .letter(256).bytes()).archive(0);
        int[] sizes = {0, 1, 3, 200};
        int[] lasts = {-1, 'x', 'z', 'q'};
        for (int record = 0; record < 4; record++) {
            int n = sizes[record];
            h.due("the last byte of " + record, h.x.content(record, n - 1), lasts[record]);
            int[] none = {LOWEST, -200, -1, n, n + 1, 200, 201, 240, HIGHEST};
            for (int i : none) {
                h.due("content(" + record + ", " + i + ")", h.x.content(record, i), -1);
            }
        }
    }

    /** Promise 15: "-2 (before -1) if there is no such entry of a readable archive". */
    private static void contentOfNoEntry() {
        House h = house("no entry");
        for (int i = 0; i < 6; i++) {
            h.text("e" + i, "" + i);
        }
        h.archive(1).text("a", "x").archive(3);
        int[] none = {LOWEST, -8, -1, 0, 7, 14, 15, 16, 23, 25, 30, 31, 32, 33, 40, 8 + 256,
            HIGHEST};
        for (int place : none) {
            h.due("content(" + place + ", 0)", h.x.content(place, 0), -2);
            h.due("content(" + place + ", -1)", h.x.content(place, -1), -2);
            h.due("content(" + place + ", 200)", h.x.content(place, 200), -2);
        }
        for (int i = 0; i < 6; i++) {
            h.due("content(" + (8 + i) + ", 0)", h.x.content(8 + i, 0), '0' + i);
        }
        h.due("content(24, 0)", h.x.content(24, 0), 'x');
        h.due("not sound", h.x.spoil(1, 0, 1), true);
        h.due("content(9, 0) then", h.x.content(9, 0), -2);
        h.due("content(9, -1) then", h.x.content(9, -1), -2);
        House notReadable = house("not readable");
        notReadable.text("a", "x").text("M", "x").archive(0);
        notReadable.due("content(0, 0)", notReadable.x.content(0, 0), -2);
        notReadable.due("content(1, -1)", notReadable.x.content(1, -1), -2);
    }

    /** Promise 15: "or it is corrupt". */
    private static void contentOfCorruptOnes() {
        House h = house("corrupt");
        h.text("a", "xyz").text("b", "").entry("c", 8, 7).archive(0);
        h.due("spoil", h.x.spoil(0, 2, 1), true);
        int[] all = {LOWEST, -1, 0, 2, 3, 200, HIGHEST};
        for (int i : all) {
            h.due("content(0, " + i + ")", h.x.content(0, i), -2);
            h.due("content(1, " + i + ")", h.x.content(1, i), -1);
            h.due("content(2, " + i + ")", h.x.content(2, i), -2);
        }
        h.due("mend", h.x.spoil(0, 2, 1), true);
        h.dueContent(0, "xyz");
    }
}
