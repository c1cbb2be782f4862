/** Promises 10 to 13: load, fault, culprit, type. */
public final class LoadTest {
    private static final Check CHECK = new Check();
    private static final int PUBLIC = House.PUBLIC;
    private static final int FINAL = House.FINAL;
    private static final int INTERFACE = House.INTERFACE;

    public static void main(String[] args) {
        definesOnce();
        outOfBounds();
        notFoundAndCorrupt();
        parentsFirst();
        parentsThatMiss();
        childrenKeepTheirs();
        classFiles();
        otherClassFiles();
        circles();
        partsNotFound();
        kindsOfParts();
        access();
        sealed();
        sealedBySpoiledOnes();
        packagesOfCorruptOnes();
        forbidden();
        closedOnes();
        versioned();
        deflatedClasses();
        orderOfParts();
        keepsWhatWasDefined();
        orderOfFaults();
        longChain();
        CHECK.end();
    }

    private static House withRoot(String about) {
        House h = new House(CHECK, about);
        return h.simple("aA", "");
    }

    private static void dueType(House h, int k, int... want) {
        for (int what = 0; what < 8; what++) {
            h.due("type(" + k + ", " + what + ")", h.x.type(k, what), want[what]);
        }
    }

    private static void definesOnce() {
        House h = withRoot("define");
        h.entry("bB", 0, House.file(2, PUBLIC | INTERFACE, "bB", "aA"));
        h.entry("cH", 0, House.file(3, PUBLIC | INTERFACE, "cH", "aA", "bB")).archive(0);
        h.entry("dD", 0, House.file(3, FINAL, "dD", "dC", "cH", "bB"));
        h.entry("dC", 0, House.file(1, 0, "dC", "aA", "bB")).archive(2);
        h.loader(-1, 0).loader(0, 1, 2);
        h.loads(1, "dD", 4);
        dueType(h, 0, 0, 0, 0, -1, -1, -1, PUBLIC, 1);
        dueType(h, 1, 9, 0, 0, 0, -1, -1, PUBLIC | INTERFACE, 2);
        dueType(h, 2, 26, 1, 2, 0, 1, -1, 0, 1);
        dueType(h, 3, 23, 0, 0, 0, 1, -1, PUBLIC | INTERFACE, 3);
        dueType(h, 4, 27, 1, 2, 2, 3, 1, FINAL, 3);
        dueType(h, 5, -1, -1, -1, -1, -1, -1, -1, -1);
        h.loads(1, "dD", 4);
        h.loads(1, "aA", 0);
        h.loads(0, "cH", 3);
        h.loads(1, "dC", 2);
        h.fails(0, "dC", 1, "dC");
        h.due("type(-1, 0)", h.x.type(-1, 0), -1);
        h.due("type(0, -1)", h.x.type(0, -1), -1);
        h.due("type(0, 8)", h.x.type(0, 8), -1);
        h.due("type(highest, 0)", h.x.type(Integer.MAX_VALUE, 0), -1);
        h.due("type(0, lowest)", h.x.type(0, Integer.MIN_VALUE), -1);
        h.dueFault(1, House.number("dC"));
    }

    private static void outOfBounds() {
        House h = withRoot("out of bounds");
        h.archive(0).loader(-1, 0);
        h.fails(0, "bA", 1, "bA");
        int[][] wrong = {{-1, 0}, {1, 0}, {4, 0}, {0, -1}, {0, 32}, {0, Integer.MAX_VALUE},
            {Integer.MIN_VALUE, 0}, {0, Integer.MIN_VALUE}, {1, 32}};
        for (int[] call : wrong) {
            String told = "(" + call[0] + ", " + call[1] + ") throws";
            h.due("load" + told, h.thrownByLoad(call[0], call[1]), House.OUT);
            h.dueFault(1, 8);
            h.due("services" + told, h.thrownByServices(call[0], call[1]), House.OUT);
            h.dueFault(1, 8);
        }
        h.due("type(0, 0)", h.x.type(0, 0), -1);
        h.loads(0, "aA", 0);
        h.fails(0, "dH", 1, "dH");
    }

    private static void notFoundAndCorrupt() {
        House h = withRoot("corrupt");
        h.simple("bA", "aA").archive(0).loader(-1, 0);
        h.due("spoil bA", h.x.spoil(0, 10 + 2 + 7, 1), true);
        h.fails(0, "bA", 2, "bA");
        h.fails(0, "bB", 1, "bB");
        h.due("mend bA", h.x.spoil(0, 10 + 2 + 7, 1), true);
        h.loads(0, "bA", 1);
        h.due("spoil bA again", h.x.spoil(0, 10 + 2 + 7, 1), true);
        h.loads(0, "bA", 1);
        h.due("spoil the mark", h.x.spoil(0, 0, 1), true);
        h.loads(0, "bA", 1);
        h.fails(0, "bC", 1, "bC");
    }

    private static void parentsFirst() {
        House h = withRoot("parents");
        h.entry("bA", 0, House.file(1, PUBLIC, "bA", "aA")).archive(0);
        h.entry("bA", 0, House.file(2, PUBLIC, "bA", "aA"));
        h.entry("bB", 0, House.file(2, PUBLIC, "bB", "aA")).archive(1);
        h.entry("bB", 0, House.file(3, PUBLIC, "bB", "aA")).archive(2);
        h.loader(-1, 0).loader(0, 1).loader(1, 2).loader(0, 2);
        h.loads(2, "bA", 1);
        dueType(h, 1, 8, 0, 0, 0, -1, -1, PUBLIC, 1);
        h.loads(2, "bB", 2);
        dueType(h, 2, 9, 1, 1, 0, -1, -1, PUBLIC, 2);
        h.loads(3, "bB", 3);
        dueType(h, 3, 9, 3, 2, 0, -1, -1, PUBLIC, 3);
        h.loads(1, "bB", 2);
    }

    private static void parentsThatMiss() {
        House h = withRoot("missed");
        h.simple("bA", "aA").simple("bB", "aA").archive(0);
        h.entry("bA", 0, House.file(2, PUBLIC, "bA", "aA")).archive(1);
        h.loader(-1, 0).loader(0, 1);
        h.due("spoil bA", h.x.spoil(0, 12, 1), true);
        h.loads(1, "bA", 1);
        dueType(h, 1, 8, 1, 1, 0, -1, -1, PUBLIC, 2);
        h.fails(0, "bA", 2, "bA");
        h.due("spoil bB", h.x.spoil(0, 22, 1), true);
        h.fails(1, "bB", 1, "bB");
        h.fails(0, "bB", 2, "bB");
        House other = withRoot("other faults");
        other.entry("bA", 0, House.file(4, PUBLIC, "bA", "aA")).archive(0);
        other.simple("bA", "aA").archive(1).loader(-1, 0).loader(0, 1);
        other.fails(1, "bA", 4, "bA");
    }

    private static void childrenKeepTheirs() {
        House h = withRoot("kept");
        h.archive(0).simple("bA", "aA").archive(1).loader(-1, 0, 2).loader(0, 1);
        h.loads(1, "bA", 1);
        h.entry("bA", 0, House.file(3, PUBLIC, "bA", "aA")).archive(2);
        h.loads(0, "bA", 2);
        h.loads(1, "bA", 1);
        h.due("type(1, 1)", h.x.type(1, 1), 1);
        h.due("type(2, 1)", h.x.type(2, 1), 0);
    }

    private static void dueFile(String what, int fault, int... file) {
        House h = withRoot(what);
        h.entry("bB", 0, House.file(1, PUBLIC | INTERFACE, "bB", "aA"));
        h.entry("bA", 0, file).archive(0).loader(-1, 0);
        if (fault == 0) {
            h.due("load throws", h.thrownByLoad(0, 8), 0);
            h.dueFault(0, -1);
        } else {
            h.fails(0, "bA", fault, "bA");
        }
    }

    private static int[] cut(int[] file, int n) {
        return java.util.Arrays.copyOf(file, n);
    }

    private static int[] with(int at, int b) {
        int[] file = House.file(1, PUBLIC, "bA", "aA", "bB");
        file[at] = b;
        return file;
    }

    private static void classFiles() {
        int[] file = House.file(1, PUBLIC, "bA", "aA", "bB");
        dueFile("whole", 0, file);
        for (int n = 0; n < file.length; n++) {
            dueFile("cut at " + n, 3, cut(file, n));
        }
        dueFile("two bytes and another version", 3, 202, 9);
        dueFile("three bytes and another version", 4, 202, 9, 0);
        dueFile("three bytes", 3, 202, 1, 0);
        dueFile("a byte too many", 3, cut(file, file.length + 1));
        dueFile("another mark", 3, with(0, 201));
        dueFile("another mark and version", 3, 201, 9, 0, 0);
        dueFile("version 0", 4, with(1, 0));
        dueFile("version 2", 0, with(1, 2));
        dueFile("version 3", 0, with(1, 3));
        dueFile("version 4", 4, with(1, 4));
        dueFile("version 255", 4, with(1, 255));
        dueFile("flags 0", 0, with(2, 0));
        dueFile("flags 3", 0, with(2, 3));
        dueFile("flags 5", 0, with(2, 5));
        dueFile("flags 6", 3, with(2, 6));
        dueFile("flags 7", 3, with(2, 7));
        dueFile("flags 8", 3, with(2, 8));
        dueFile("flags 9", 3, with(2, 9));
        dueFile("flags 128", 3, with(2, 128));
        dueFile("another package", 5, with(3, 'c'));
        dueFile("another letter", 5, with(4, 'B'));
        dueFile("no package", 3, with(3, 'e'));
        dueFile("no package before", 3, with(3, '`'));
        dueFile("no letter", 3, with(4, 'I'));
        dueFile("no letter before", 3, with(4, '@'));
        dueFile("no name", 3, with(4, 0));
        dueFile("no super class's package", 3, with(5, 'e'));
        dueFile("no super class's letter", 3, with(6, 'I'));
        dueFile("half a super class", 3, with(5, 0));
        dueFile("the other half", 3, with(6, 0));
        dueFile("no interface's package", 3, with(8, 'A'));
        dueFile("no interface's letter", 3, with(9, 'a'));
        dueFile("no interface told", 3, with(7, 0));
        dueFile("two interfaces told", 3, with(7, 2));
        dueFile("three interfaces", 3, House.file(1, PUBLIC, "bA", "aA", "bB", "bB", "bB"));
        dueFile("255 interfaces", 3, with(7, 255));
        dueFile("the same interface twice", 0, House.file(1, PUBLIC, "bA", "aA", "bB", "bB"));
        dueFile("second interface none", 3, House.file(1, PUBLIC, "bA", "aA", "bB", "\0\0"));
    }

    private static void otherClassFiles() {
        dueFile("no super class", 3, House.file(1, PUBLIC, "bA", ""));
        dueFile("a root with no super class", 5, House.file(1, PUBLIC, "aA", ""));
        dueFile("a root with one", 3, House.file(1, PUBLIC, "aA", "aB"));
        dueFile("a root with itself", 3, House.file(1, PUBLIC, "aA", "aA"));
        dueFile("a root that is an interface", 5, House.file(1, PUBLIC | INTERFACE, "aA", ""));
        dueFile("an interface with another one", 3,
                House.file(1, PUBLIC | INTERFACE, "bA", "bB"));
        dueFile("an interface with the root", 0,
                House.file(1, PUBLIC | INTERFACE, "bA", "aA", "bB"));
        dueFile("no public one", 0, House.file(1, 0, "bA", "aA"));
        House h = new House(CHECK, "root with interfaces");
        h.entry("aA", 0, House.file(1, PUBLIC, "aA", "", "aB")).archive(0).loader(-1, 0);
        h.fails(0, "aA", 7, "aB");
        String[] halves = {"a\0", "\0A", "\0\1"};
        for (String half : halves) {
            House root = new House(CHECK, "root with half a super class");
            root.simple("aA", half).archive(0).loader(-1, 0);
            root.fails(0, "aA", 3, "aA");
        }
        House root = new House(CHECK, "root with a super class");
        root.simple("aA", "aB").simple("aB", "aA").archive(0).loader(-1, 0);
        root.fails(0, "aA", 3, "aA");
        root.fails(0, "aB", 3, "aA");
    }

    private static void circles() {
        House h = withRoot("circles");
        h.simple("bA", "bA").simple("bB", "bC").simple("bC", "bD").simple("bD", "bB").archive(0);
        h.entry("cA", 0, House.file(1, PUBLIC | INTERFACE, "cA", "aA", "cB"));
        h.entry("cB", 0, House.file(1, PUBLIC | INTERFACE, "cB", "aA", "cA"));
        h.simple("cC", "aA", "cA").archive(1);
        h.loader(-1, 0).loader(0, 1);
        h.fails(1, "bA", 6, "bA");
        h.fails(1, "bB", 6, "bB");
        h.fails(0, "bD", 6, "bD");
        h.fails(1, "cA", 6, "cA");
        h.fails(1, "cB", 6, "cB");
        h.fails(1, "cC", 6, "cA");
        h.fails(0, "cC", 1, "cC");
        h.due("type(0, 0)", h.x.type(0, 0), 0);
        h.due("type(1, 0)", h.x.type(1, 0), -1);
        h.fails(1, "bA", 6, "bA");
        overLoaders();
    }

    /** No circle: the parent does not know what its child is about to define. */
    private static void overLoaders() {
        House h = withRoot("over loaders");
        h.simple("bB", "bA").archive(0).simple("bA", "bB").archive(1);
        h.loader(-1, 0).loader(0, 1);
        h.fails(1, "bA", 7, "bA");
        h.fails(0, "bB", 7, "bA");
    }

    private static void partsNotFound() {
        House h = withRoot("parts");
        h.simple("bA", "cA").simple("bB", "bA").simple("bC", "aA", "cB").simple("bD", "aA", "bE");
        h.simple("bE", "aA").archive(0).loader(-1, 0).loader(0, 1);
        h.fails(0, "bA", 7, "cA");
        h.fails(1, "bA", 7, "cA");
        h.fails(0, "bB", 7, "cA");
        h.fails(0, "bC", 7, "cB");
        h.due("spoil bE", h.x.spoil(0, 8 + 2 + 10 + 10 + 12 + 12 + 4, 1), true);
        h.fails(0, "bE", 2, "bE");
        h.fails(0, "bD", 7, "bE");
        h.simple("cA", "aA").archive(1);
        h.fails(1, "bA", 7, "cA");
        h.loads(1, "cA", 1);
        House noRoot = new House(CHECK, "no root");
        noRoot.simple("bA", "aA").archive(0).loader(-1, 0);
        noRoot.fails(0, "bA", 7, "aA");
    }

    private static void kindsOfParts() {
        House h = withRoot("kinds");
        h.entry("bB", 0, House.file(1, PUBLIC | INTERFACE, "bB", "aA"));
        h.entry("bC", 0, House.file(1, PUBLIC | FINAL, "bC", "aA"));
        h.simple("bD", "aA").simple("cA", "bB").archive(0);
        h.simple("cB", "bC").simple("cC", "bD", "bD").simple("cD", "bD", "bB", "bC");
        h.simple("cE", "bD", "bB", "bB").simple("cF", "bD", "bC", "dH").archive(1);
        h.loader(-1, 0, 1);
        h.fails(0, "cA", 8, "cA");
        h.fails(0, "cB", 8, "cB");
        h.fails(0, "cC", 8, "cC");
        h.fails(0, "cD", 8, "cD");
        h.fails(0, "cF", 8, "cF");
        h.loads(0, "cE", 4);
        House root = new House(CHECK, "a final root");
        root.entry("aA", 0, House.file(1, PUBLIC | FINAL, "aA", "")).simple("bA", "aA");
        root.archive(0).loader(-1, 0);
        root.loads(0, "aA", 0);
        root.fails(0, "bA", 8, "bA");
        House face = new House(CHECK, "a root that is an interface");
        face.entry("aA", 0, House.file(1, PUBLIC | INTERFACE, "aA", "")).simple("bA", "aA");
        face.entry("bB", 0, House.file(1, INTERFACE, "bB", "aA")).archive(0).loader(-1, 0);
        face.loads(0, "aA", 0);
        face.fails(0, "bA", 8, "bA");
        face.fails(0, "bB", 8, "bB");
    }

    private static void access() {
        House h = withRoot("access");
        h.entry("bA", 0, House.file(1, 0, "bA", "aA"));
        h.entry("bB", 0, House.file(1, INTERFACE, "bB", "aA"));
        h.simple("bC", "bA", "bB").simple("cA", "bA").simple("cB", "aA", "bB").archive(0);
        h.simple("bD", "bA").simple("bE", "aA", "bB");
        h.entry("bF", 0, House.file(1, FINAL, "bF", "aA")).simple("bG", "bF").simple("cC", "bF");
        h.archive(1).loader(-1, 0).loader(0, 1);
        h.loads(0, "bC", 3);
        h.fails(0, "cA", 9, "cA");
        h.fails(0, "cB", 9, "cB");
        h.fails(1, "bD", 9, "bD");
        h.fails(1, "bE", 9, "bE");
        h.fails(1, "bG", 8, "bG");
        h.fails(1, "cC", 8, "cC");
        h.loads(1, "bF", 4);
        House root = new House(CHECK, "a root that is not public");
        root.entry("aA", 0, House.file(1, 0, "aA", "")).simple("aB", "aA").simple("bA", "aA");
        root.archive(0).loader(-1, 0);
        root.loads(0, "aB", 1);
        root.fails(0, "bA", 9, "bA");
    }

    /** Two archives with a class of package b each, and manifests. */
    private static House twoOfB(String about, String first, String second) {
        House h = withRoot(about);
        h.simple("bA", "aA").simple("cA", "aA").text("M", first).archive(0);
        h.simple("bB", "aA").simple("cB", "aA").simple("aB", "aA").text("M", second).archive(1);
        return h.loader(-1, 0, 1);
    }

    private static void sealed() {
        House none = twoOfB("not sealed", "Z:acd\n", "Z:ad\n");
        none.loads(0, "bA", 1);
        none.loads(0, "bB", 2);
        none.loads(0, "cA", 3);
        none.fails(0, "cB", 10, "cB");
        House first = twoOfB("sealed by the first", "Z:b\n", "");
        first.loads(0, "bA", 1);
        first.fails(0, "bB", 10, "bB");
        first.loads(0, "cA", 2);
        first.loads(0, "cB", 3);
        House root = twoOfB("the root's package", "Z:a\n", "");
        root.fails(0, "aC", 1, "aC");
        root.loads(0, "aA", 0);
        root.fails(0, "aB", 10, "aB");
        House second = twoOfB("sealed by the second", "Z:a\n", "Z:ac\n b\n");
        second.loads(0, "bA", 1);
        second.fails(0, "bB", 10, "bB");
        second.fails(0, "bB", 10, "bB");
        House back = twoOfB("the other way", "Z:b\n", "");
        back.loads(0, "bB", 1);
        back.fails(0, "bA", 10, "bA");
        back.loads(0, "bB", 1);
        House apart = withRoot("sealed, but of two loaders");
        apart.simple("bA", "aA").text("M", "Z:b\n").archive(0);
        apart.simple("bB", "aA").text("M", "Z:b\n").archive(1).loader(-1, 0).loader(0, 1);
        apart.loads(1, "bA", 1);
        apart.loads(1, "bB", 2);
        House same = withRoot("sealed, but from one archive");
        same.simple("bA", "aA").simple("bB", "bA").text("M", "Z:b\n").archive(0).loader(-1, 0);
        same.loads(0, "bA", 1);
        same.loads(0, "bB", 2);
    }

    private static void sealedBySpoiledOnes() {
        House h = twoOfB("sealed by one that is spoiled", "Z:b\n", "");
        h.loads(0, "bA", 1);
        h.due("spoil archive 0", h.x.spoil(0, 0, 1), true);
        h.loads(0, "bB", 2);
        h.due("mend archive 0", h.x.spoil(0, 0, 1), true);
        h.loads(0, "bB", 2);
        House undone = twoOfB("a manifest that is none any more", "Z:abc\n", "");
        undone.loads(0, "bA", 1);
        int record = 8 + 2 + 10 + 10 + 2 + 6;
        undone.due("the name M", undone.x.peek(0, record + 3 * 14 + 1), 'M');
        undone.set(0, record + 3 * 14 + 1, 'N');
        undone.loads(0, "bB", 2);
        undone.loads(0, "cA", 3);
        undone.loads(0, "cB", 4);
        undone.loads(0, "aB", 5);
        House late = withRoot("sealed later");
        late.simple("bA", "aA").archive(0).loader(-1, 0, 1);
        late.loads(0, "bA", 1);
        late.simple("bB", "aA").text("M", "Z:b\n").archive(1);
        late.fails(0, "bB", 10, "bB");
    }

    private static void packagesOfCorruptOnes() {
        House h = twoOfB("package of a corrupt one", "Z:b\n", "");
        h.due("spoil bA", h.x.spoil(0, 12, 1), true);
        h.fails(0, "bA", 2, "bA");
        h.fails(0, "bB", 10, "bB");
        h.due("mend bA", h.x.spoil(0, 12, 1), true);
        h.loads(0, "bA", 1);
        House bad = withRoot("package of one that is no class");
        bad.text("bA", "x").text("M", "Z:b\n").archive(0).simple("bB", "aA").archive(1);
        bad.loader(-1, 0, 1);
        bad.fails(0, "bA", 3, "bA");
        bad.fails(0, "bB", 10, "bB");
        House missed = withRoot("package of one that was not found");
        missed.text("M", "Z:b\n").archive(0).simple("bB", "aA").archive(1).loader(-1, 0, 1);
        missed.fails(0, "bA", 1, "bA");
        missed.loads(0, "bB", 1);
        House parent = withRoot("package of the parent");
        parent.simple("bA", "aA").text("M", "Z:b\n").archive(0).simple("bA", "aA").archive(1);
        parent.simple("bB", "aA").archive(2).loader(-1, 0, 2).loader(0, 1);
        parent.due("spoil bA", parent.x.spoil(0, 12, 1), true);
        parent.loads(1, "bA", 1);
        parent.fails(1, "bB", 10, "bB");
    }

    private static void forbidden() {
        House h = withRoot("forbidden");
        h.simple("aB", "aA").archive(0).simple("aC", "aA").text("aD", "x").simple("bA", "aC");
        h.simple("aE", "aA").archive(1).loader(-1, 0).loader(0, 1);
        h.loads(1, "aB", 1);
        h.fails(1, "aC", 11, "aC");
        h.fails(1, "aD", 11, "aD");
        h.fails(1, "bA", 11, "aC");
        h.due("spoil aE", h.x.spoil(1, 10 + 3 + 10 + 4, 1), true);
        h.fails(1, "aE", 2, "aE");
        h.fails(1, "aH", 1, "aH");
    }

    private static void closedOnes() {
        House h = withRoot("closed");
        h.simple("bA", "aA").simple("bB", "bA").archive(0).simple("bC", "bA").archive(1);
        h.loader(-1, 0).loader(0, 1);
        h.loads(0, "bA", 1);
        h.due("close(0)", h.x.close(0), true);
        h.loads(0, "bA", 1);
        h.fails(0, "bB", 1, "bB");
        h.loads(1, "bC", 2);
        h.due("close(1)", h.x.close(1), true);
        h.loads(1, "bC", 2);
        h.loads(1, "bA", 1);
        h.fails(1, "bD", 1, "bD");
    }

    private static void versioned() {
        House h = withRoot("versions");
        h.entry("bA", 0, House.file(1, PUBLIC, "bA", "aA"));
        h.entry("3bA", 0, House.file(3, PUBLIC, "bA", "aA"));
        h.entry("2bB", 0, House.file(2, PUBLIC, "bB", "aA")).text("M", "V:Y\n").archive(0);
        h.entry("3bC", 0, House.file(3, PUBLIC, "bC", "aA")).archive(1).loader(-1, 0, 1);
        h.loads(0, "bA", 1);
        h.due("type(1, 7)", h.x.type(1, 7), 3);
        h.loads(0, "bB", 2);
        h.due("type(2, 7)", h.x.type(2, 7), 2);
        h.fails(0, "bC", 1, "bC");
        House spoiled = withRoot("a corrupt version");
        spoiled.simple("bA", "aA").simple("3bA", "aA").text("M", "V:Y\n").archive(0).loader(-1, 0);
        spoiled.fails(0, "bA", 3, "bA");
        spoiled.due("spoil 3bA", spoiled.x.spoil(0, 22, 1), true);
        spoiled.fails(0, "bA", 2, "bA");
    }

    private static void deflatedClasses() {
        House h = withRoot("deflated");
        int[] file = House.file(2, PUBLIC, "bA", "aA");
        StringBuilder text = new StringBuilder();
        for (int b : file) {
            text.append((char) b);
        }
        int[] packed = new Bits().block(true, 1).letters(text.toString()).letter(256).bytes();
        h.entry("bA", 8, packed).archive(0).loader(-1, 0);
        h.loads(0, "bA", 1);
        dueType(h, 1, 8, 0, 0, 0, -1, -1, PUBLIC, 2);
    }

    private static void orderOfParts() {
        House h = withRoot("order");
        h.simple("bA", "bB", "bC", "bD").simple("bB", "aA");
        h.entry("bC", 0, House.file(1, PUBLIC | INTERFACE, "bC", "aA"));
        h.entry("bD", 0, House.file(1, PUBLIC | INTERFACE, "bD", "aA")).archive(0).loader(-1, 0);
        h.loads(0, "bA", 4);
        dueType(h, 4, 8, 0, 0, 1, 2, 3, PUBLIC, 1);
        House first = withRoot("the first fault");
        first.simple("bA", "bB", "bC", "cC").entry("bB", 0, House.file(1, FINAL, "bB", "aA"));
        first.simple("bD", "aA", "aA", "cC").simple("bE", "cC", "aA").archive(0).loader(-1, 0);
        first.fails(0, "bA", 8, "bA");
        first.fails(0, "bD", 8, "bD");
        first.fails(0, "bE", 7, "cC");
    }

    private static void keepsWhatWasDefined() {
        House h = withRoot("kept");
        h.simple("bA", "bB", "cC").simple("bB", "aA").archive(0).loader(-1, 0);
        h.fails(0, "bA", 7, "cC");
        h.due("type(0, 0)", h.x.type(0, 0), 0);
        h.due("type(1, 0)", h.x.type(1, 0), 9);
        h.due("type(2, 0)", h.x.type(2, 0), -1);
        h.entry("cC", 0, House.file(1, PUBLIC | INTERFACE, "cC", "aA")).archive(1);
        h.due("append(0, 1)", h.x.append(0, 1), true);
        h.loads(0, "bA", 3);
        dueType(h, 3, 8, 0, 0, 1, 2, -1, PUBLIC, 1);
    }

    private static void orderOfFaults() {
        House h = twoOfB("10 before 2", "Z:b\n", "");
        h.loads(0, "bA", 1);
        h.due("spoil bB", h.x.spoil(1, 2, 1), true);
        h.fails(0, "bB", 10, "bB");
        House both = withRoot("10 before 11");
        both.archive(0).simple("aB", "aA").archive(1).simple("aC", "aA").text("M", "Z:a\n");
        both.archive(2).loader(-1, 0).loader(0, 1, 2);
        both.fails(1, "aB", 11, "aB");
        both.fails(1, "aC", 10, "aC");
        House late = withRoot("4 before 3 and 3 before 5");
        late.entry("bA", 0, 202, 4, 99).entry("bB", 0, House.file(1, 8, "cC", "aA"));
        late.entry("bC", 0, House.file(1, PUBLIC, "cC", "dD")).archive(0).loader(-1, 0);
        late.fails(0, "bA", 4, "bA");
        late.fails(0, "bB", 3, "bB");
        late.fails(0, "bC", 5, "bC");
    }

    /** As many classes as fit, each below the one before, over loaders of four levels. */
    private static void longChain() {
        House h = withRoot("chain");
        String[] names = new String[24];
        for (int i = 1; i < 24; i++) {
            names[i] = "" + (char) ('b' + i / 8) + (char) ('A' + i % 8);
            h.simple(names[i], i == 1 ? "aA" : names[i - 1]);
            if (i % 6 == 5) {
                h.archive(i / 6);
            }
        }
        h.loader(-1, 0).loader(0).loader(1).loader(2, 1, 2, 3);
        h.loads(3, names[23], 23);
        h.due("type(23, 3)", h.x.type(23, 3), 22);
        h.due("type(5, 1)", h.x.type(5, 1), 0);
        h.due("type(6, 1)", h.x.type(6, 1), 3);
        h.due("type(24, 0)", h.x.type(24, 0), -1);
    }
}
