import java.util.Arrays;

/** The boundary cases of class files: their bytes, and the faults 3, 4 and 5. */
public final class ClassFileEdgesTest {
    private static final Check CHECK = new Check();
    private static final int PUBLIC = House.PUBLIC;
    private static final int FINAL = House.FINAL;
    private static final int INTERFACE = House.INTERFACE;

    public static void main(String[] args) {
        threeBytesAtLeast();
        begins202();
        versions1To3();
        lengthAsItSays();
        flagsUpTo7();
        finalAndInterface();
        packagesAToD();
        lettersAToH();
        superClassOrNone();
        rootWithoutSuperClass();
        interfacesWithTheRoot();
        zeroToTwoInterfaces();
        anotherName();
        faultsInTheirOrder();
        everyName();
        CHECK.end();
    }

    /** The fault of loading bA with this class file; its parts are there: bB and bC interfaces. */
    private static void due(String what, int fault, int... file) {
        House h = new House(CHECK, what);
        h.simple("aA", "").entry("bB", 0, House.file(1, PUBLIC | INTERFACE, "bB", "aA"));
        h.entry("bC", 0, House.file(1, PUBLIC | INTERFACE, "bC", "aA")).simple("bD", "aA");
        h.entry("bA", 0, file).archive(0).loader(-1, 0);
        if (fault != 0) {
            h.fails(0, "bA", fault, "bA");
            h.due("type(0, 0): nothing is loaded for it", h.x.type(0, 0), -1);
            return;
        }
        h.due("load throws", h.thrownByLoad(0, House.number("bA")), 0);
        h.dueFault(0, -1);
        h.due("its name", h.x.type(h.latest, 0), House.number("bA"));
        h.due("its flags", h.x.type(h.latest, 6), file[2]);
        h.due("its version", h.x.type(h.latest, 7), file[1]);
    }

    private static int[] plain() {
        return House.file(1, PUBLIC, "bA", "aA");
    }

    private static int[] with(int at, int b) {
        int[] file = plain();
        file[at] = b;
        return file;
    }

    /** "If the content has not three bytes .. fault 3" */
    private static void threeBytesAtLeast() {
        due("no byte", 3);
        due("one byte", 3, 202);
        due("two bytes", 3, 202, 1);
        due("two bytes, no version", 3, 202, 9);
        due("three bytes", 3, 202, 1, 1);
        due("three bytes, no version", 4, 202, 9, 1);
    }

    /** "or does not begin with 202: fault 3" */
    private static void begins202() {
        int[] marks = {0, 74, 201, 202, 203, 255};
        for (int mark : marks) {
            due("mark " + mark, mark == 202 ? 0 : 3, with(0, mark));
            due("mark " + mark + ", three bytes, no version", mark == 202 ? 4 : 3, mark, 0, 0);
        }
    }

    /** "a version not 1 .. 3: fault 4" */
    private static void versions1To3() {
        int[] versions = {0, 1, 2, 3, 4, 5, 127, 128, 129, 255};
        for (int version : versions) {
            boolean fits = version >= 1 && version <= 3;
            due("version " + version, fits ? 0 : 4, with(1, version));
            due("version " + version + ", three bytes", fits ? 3 : 4, 202, version, 0);
        }
    }

    /** "it is no class file": cut, or with a byte too many. */
    private static void lengthAsItSays() {
        int[][] files = {plain(), House.file(1, PUBLIC, "bA", "aA", "bB"),
            House.file(1, PUBLIC, "bA", "aA", "bB", "bC")};
        for (int[] file : files) {
            for (int n = 3; n <= file.length + 3; n++) {
                due(file.length + " bytes, of which " + n, n == file.length ? 0 : 3,
                        Arrays.copyOf(file, n));
            }
        }
    }

    /** "has flags above 7" */
    private static void flagsUpTo7() {
        for (int flags = 0; flags <= 17; flags++) {
            boolean fits = flags <= 5;
            due("flags " + flags, fits ? 0 : 3, with(2, flags));
        }
        int[] far = {32, 64, 127, 128, 129, 255};
        for (int flags : far) {
            due("flags " + flags, 3, with(2, flags));
        }
    }

    /** "or FINAL and INTERFACE both" */
    private static void finalAndInterface() {
        due("FINAL", 0, with(2, FINAL));
        due("INTERFACE", 0, with(2, INTERFACE));
        due("both", 3, with(2, FINAL | INTERFACE));
        due("both, and PUBLIC", 3, with(2, FINAL | INTERFACE | PUBLIC));
    }

    /** "told by two bytes: a .. d": of its own name, its super class's, an interface's */
    private static void packagesAToD() {
        int[] bytes = {0, 1, 'A', '`', 'a', 'b', 'c', 'd', 'e', 'z', 225, 255};
        for (int b : bytes) {
            boolean fits = b >= 'a' && b <= 'd';
            // With an a it would be called as the root, but has a super class.
            due("its package " + b, b == 'b' ? 0 : fits && b != 'a' ? 5 : 3, with(3, b));
            int[] upper = with(5, b);
            dueParts("the super class's package " + b, fits, upper);
            int[] face = House.file(1, PUBLIC, "bA", "aA", "bB");
            face[8] = b;
            dueParts("the interface's package " + b, fits, face);
            int[] second = House.file(1, PUBLIC, "bA", "aA", "bB", "bC");
            second[10] = b;
            dueParts("the second interface's package " + b, fits, second);
        }
    }

    /** "and A .. H" */
    private static void lettersAToH() {
        int[] bytes = {0, 1, '@', 'A', 'B', 'G', 'H', 'I', 'Z', 'a', 193, 255};
        for (int b : bytes) {
            boolean fits = b >= 'A' && b <= 'H';
            due("its letter " + b, b == 'A' ? 0 : fits ? 5 : 3, with(4, b));
            dueParts("the super class's letter " + b, fits, with(6, b));
            int[] face = House.file(1, PUBLIC, "bA", "aA", "bB");
            face[9] = b;
            dueParts("the interface's letter " + b, fits, face);
            int[] second = House.file(1, PUBLIC, "bA", "aA", "bB", "bC");
            second[11] = b;
            dueParts("the second interface's letter " + b, fits, second);
        }
    }

    /** With names that fit it is a class file: then its parts are loaded, and may have faults. */
    private static void dueParts(String what, boolean fits, int[] file) {
        House h = new House(CHECK, what);
        h.simple("aA", "").entry("bA", 0, file).archive(0).loader(-1, 0);
        int kind = h.thrownByLoad(0, House.number("bA"));
        h.due("no fault 3", h.x.fault() != 3, fits);
        h.due("load throws no IllegalArgumentException", kind != House.ARGUMENT, fits);
    }

    /** "(two bytes 0 for none)", "no super class (and is not called as the root)": fault 3 */
    private static void superClassOrNone() {
        due("none", 3, House.file(1, PUBLIC, "bA", ""));
        due("none, for an interface", 3, House.file(1, PUBLIC | INTERFACE, "bA", ""));
        due("the first byte 0", 3, House.file(1, PUBLIC, "bA", "\0A"));
        due("the second byte 0", 3, House.file(1, PUBLIC, "bA", "a\0"));
        due("bytes 0 and 1", 3, House.file(1, PUBLIC, "bA", "\0\1"));
        due("bytes 1 and 1", 3, House.file(1, PUBLIC, "bA", "\1\1"));
        due("the root", 0, House.file(1, PUBLIC, "bA", "aA"));
        due("another one", 0, House.file(1, PUBLIC, "bA", "bD"));
    }

    /** "or one (and is called so)": fault 3 */
    private static void rootWithoutSuperClass() {
        String[] uppers = {"", "aA", "aB", "bA", "dH", "\0A", "a\0", "\0\1", "\1\0", "\1\1", "AA",
            "\1\377", "\200\200"};
        for (String upper : uppers) {
            House h = new House(CHECK, "the root with the super class <" + upper + ">");
            h.simple("aA", upper).simple("aB", "aA").archive(0).loader(-1, 0);
            if (upper.isEmpty()) {
                h.loads(0, "aA", 0);
                h.due("type(0, 3)", h.x.type(0, 3), -1);
            } else {
                h.fails(0, "aA", 3, "aA");
                h.due("type(0, 0)", h.x.type(0, 0), -1);
            }
        }
        int[] flags = {0, PUBLIC, FINAL, INTERFACE, INTERFACE | PUBLIC, INTERFACE | FINAL, 8};
        for (int flag : flags) {
            House h = new House(CHECK, "the root with the flags " + flag);
            h.entry("aA", 0, House.file(3, flag, "aA", "")).archive(0).loader(-1, 0);
            if (flag <= 5) {
                h.loads(0, "aA", 0);
                h.due("type(0, 6)", h.x.type(0, 6), flag);
            } else {
                h.fails(0, "aA", 3, "aA");
            }
        }
        due("called as the root, without one", 5, House.file(1, PUBLIC, "aA", ""));
        due("called as the root, with one", 3, House.file(1, PUBLIC, "aA", "aB"));
        House other = new House(CHECK, "the root's entry is called otherwise");
        other.entry("aA", 0, House.file(1, PUBLIC, "aB", "aA")).archive(0).loader(-1, 0);
        other.fails(0, "aA", 5, "aA");
        House none = new House(CHECK, "the root's entry is called otherwise, and has none");
        none.entry("aA", 0, House.file(1, PUBLIC, "aB", "")).archive(0).loader(-1, 0);
        none.fails(0, "aA", 3, "aA");
    }

    /** "or is an INTERFACE with another one than the root: fault 3" */
    private static void interfacesWithTheRoot() {
        due("with the root", 0, House.file(1, INTERFACE, "bA", "aA"));
        due("with one beside the root", 3, House.file(1, INTERFACE, "bA", "aB"));
        due("with one of its package", 3, House.file(1, INTERFACE, "bA", "bD"));
        due("with an interface", 3, House.file(1, INTERFACE | PUBLIC, "bA", "bB"));
        due("with itself", 3, House.file(1, INTERFACE, "bA", "bA"));
        due("a class with another one", 0, House.file(1, 0, "bA", "bD"));
    }

    /** "n (0 .. 2), n names of interfaces" */
    private static void zeroToTwoInterfaces() {
        String[] faces = {"bB", "bC", "bB", "bC"};
        for (int n = 0; n <= 4; n++) {
            due(n + " interfaces", n <= 2 ? 0 : 3,
                    House.file(1, PUBLIC, "bA", "aA", Arrays.copyOf(faces, n)));
            for (int told = 0; told <= 4; told++) {
                int[] file = House.file(1, PUBLIC, "bA", "aA", Arrays.copyOf(faces, n));
                file[7] = told;
                due(n + " interfaces, told " + told, n <= 2 && told == n ? 0 : 3, file);
            }
        }
        due("255 interfaces told", 3, with(7, 255));
        due("an interface of two bytes 0", 3, House.file(1, PUBLIC, "bA", "aA", "\0\0"));
        due("a second one of two bytes 0", 3, House.file(1, PUBLIC, "bA", "aA", "bB", "\0\0"));
    }

    /** "Another name than n: fault 5." */
    private static void anotherName() {
        String[] names = {"aA", "aH", "bA", "bB", "bH", "cA", "dH"};
        for (String name : names) {
            boolean root = name.equals("aA");
            due("called " + name, name.equals("bA") ? 0 : 5,
                    House.file(1, PUBLIC, name, root ? "" : "aA"));
        }
    }

    /** Each fault comes before those that are told behind it, if both could be. */
    private static void faultsInTheirOrder() {
        due("another mark before a version", 3, 201, 0, 9);
        due("a version before a cut file", 4, 202, 0, 9, 'b');
        due("a version before flags", 4, House.file(4, 8, "bA", "aA"));
        due("a version before another name", 4, House.file(0, PUBLIC, "bB", "aA"));
        due("flags before another name", 3, House.file(1, 8, "bB", "aA"));
        due("no super class before another name", 3, House.file(1, PUBLIC, "bB", ""));
        due("an interface's before another name", 3, House.file(1, INTERFACE, "bB", "bD"));
        due("another name before a part not found", 5, House.file(1, PUBLIC, "bE", "dH"));
        due("another name before a circle", 5, House.file(1, PUBLIC, "bE", "bA"));
    }

    /** "CLASSES have names 0 .. 31: 8 * package + letter" */
    private static void everyName() {
        for (int n = 0; n < 32; n++) {
            String name = "" + (char) ('a' + n / 8) + (char) ('A' + n % 8);
            House h = new House(CHECK, "class " + name);
            h.simple("aA", "");
            if (n > 0) {
                h.simple(name, "aA");
            }
            h.archive(0).loader(-1, 0);
            h.due("load(0, " + n + ") throws", h.thrownByLoad(0, n), 0);
            h.due("load(0, " + n + ")", h.latest, n == 0 ? 0 : 1);
            h.due("its name", h.x.type(h.latest, 0), n);
            h.due("load(0, next) throws", h.thrownByLoad(0, (n + 1) % 32), n == 31 ? 0
                    : House.MISSING);
        }
    }
}
