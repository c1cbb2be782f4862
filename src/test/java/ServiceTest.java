/** Promises 16 and 17, and the faults 13 to 15 of promises 11 and 12: services and next. */
public final class ServiceTest {
    private static final Check CHECK = new Check();
    private static final int PUBLIC = House.PUBLIC;
    private static final int INTERFACE = House.INTERFACE;

    public static void main(String[] args) {
        noIteration();
        tellsInOrder();
        linesAndBlanks();
        badLines();
        onceEach();
        providers();
        notLoaded();
        corruptPlaces();
        asItIsThen();
        goesOnAtTheByte();
        failedServicesKeepIt();
        beginsAnew();
        listStays();
        ofParents();
        versionsOfServices();
        CHECK.end();
    }

    private static void noIteration() {
        House h = new House(CHECK, "none");
        h.dueNext(-1);
        h.loader(-1);
        h.fails(0, "bA", 1, "bA");
        h.dueNext(-1);
        h.due("services throws", h.thrownByServices(0, 8), House.MISSING);
        h.dueFault(1, 8);
        h.dueNext(-1);
    }

    /** Archive 0: the root, an interface bA, classes bB and bC with it, and who serves it. */
    private static House base(String about, String list) {
        House h = new House(CHECK, about);
        h.simple("aA", "").entry("bA", 0, House.file(1, PUBLIC | INTERFACE, "bA", "aA"));
        h.simple("bB", "aA", "bA").simple("bC", "bB").simple("bD", "aA");
        return h.text("SbA", list).archive(0).loader(-1, 0);
    }

    private static void tellsInOrder() {
        House h = base("order", "bC\nbB\n");
        h.serves(0, "bA", 1);
        h.dueNext(3);
        h.dueNext(2);
        h.dueNext(-1);
        h.dueNext(-1);
        House none = base("no list", "bC\n");
        none.serves(0, "bB", 0);
        none.dueNext(-1);
        House empty = base("empty list", "");
        empty.serves(0, "bA", 1);
        empty.dueNext(-1);
    }

    private static void linesAndBlanks() {
        House h = base("blanks", "\n  \n# bD\n  bB # x\n   #\nbC#bD\n");
        h.serves(0, "bA", 1);
        h.dueNext(2);
        h.dueNext(3);
        h.dueNext(-1);
        House last = base("no end of line", "bC\n bB");
        last.serves(0, "bA", 1);
        last.dueNext(3);
        last.dueNext(2);
        last.dueNext(-1);
        House one = base("one line", "   bC   ##");
        one.serves(0, "bA", 1);
        one.dueNext(3);
        one.dueNext(-1);
    }

    private static void badLines() {
        String[] bad = {"b", "bBB", "b B", "bb", "eA", "BB", "bI", "b@", "`A", "bB bC", "bB\t",
            "bB\r", "\0\0", "bB,bC", "\tbB", "b#B", "1bB"};
        for (String line : bad) {
            House h = base("<" + line + ">", "bC\n" + line + "\nbB\n");
            h.serves(0, "bA", 1);
            h.dueNext(3);
            h.nextFails(13, -1);
            h.dueNext(-1);
            h.dueNext(-1);
        }
    }

    private static void onceEach() {
        House h = base("once", "bC\nbC\nbD\nbB\nbD\nbC\nbB");
        h.serves(0, "bA", 1);
        h.dueNext(3);
        h.nextFails(15, House.number("bD"));
        h.dueNext(2);
        h.dueNext(-1);
        House faults = base("faults once", "dA\ndA\ndB\ndA\nbB");
        faults.serves(0, "bA", 1);
        faults.nextFails(14, House.number("dA"));
        faults.nextFails(14, House.number("dB"));
        faults.dueNext(2);
        faults.dueNext(-1);
    }

    private static void providers() {
        House h = new House(CHECK, "providers");
        h.simple("aA", "").entry("bA", 0, House.file(1, PUBLIC | INTERFACE, "bA", "aA"));
        h.entry("bB", 0, House.file(1, PUBLIC | INTERFACE, "bB", "aA", "bA"));
        h.entry("bC", 0, House.file(1, PUBLIC | INTERFACE, "bC", "aA", "bE", "bB"));
        h.simple("cA", "aA", "bE", "bC").entry("bE", 0,
                House.file(1, PUBLIC | INTERFACE, "bE", "aA")).archive(0);
        h.simple("cB", "cA").simple("cC", "aA", "bE").simple("cD", "cC", "bB").archive(1);
        h.text("SbA", "bA\nbB\naA\ncC\ncB\ncD\ncA\nbE\n").text("ScA", "cA\ncB\ncD\naA").archive(2);
        h.text("SaA", "aA\nbA\ncC").archive(3).loader(-1, 0, 1, 2, 3);
        h.serves(0, "bA", 1);
        h.nextFails(15, House.number("bA"));
        h.nextFails(15, House.number("bB"));
        h.nextFails(15, House.number("aA"));
        h.nextFails(15, House.number("cC"));
        dueNextName(h, "cB");
        dueNextName(h, "cD");
        dueNextName(h, "cA");
        h.nextFails(15, House.number("bE"));
        h.dueNext(-1);
        h.serves(0, "cA", 1);
        dueNextName(h, "cA");
        dueNextName(h, "cB");
        h.nextFails(15, House.number("cD"));
        h.nextFails(15, House.number("aA"));
        h.dueNext(-1);
        h.serves(0, "aA", 1);
        dueNextName(h, "aA");
        h.nextFails(15, House.number("bA"));
        dueNextName(h, "cC");
        h.dueNext(-1);
    }

    private static void dueNextName(House h, String name) {
        h.due("next() throws", h.thrownByNext(), 0);
        h.due("the name of next()", h.x.type(h.latest, 0), House.number(name));
        h.dueFault(0, -1);
    }

    private static void notLoaded() {
        House h = base("not loaded", "cA\ncB\ncC\ncD\ncE\ncF\nbB");
        h.text("cA", "x").entry("cB", 0, House.file(4, PUBLIC, "cB", "aA"));
        h.simple("cC", "dA").simple("cD", "cD").simple("cE", "cC").simple("cG", "aA").archive(1);
        h.due("append(0, 1)", h.x.append(0, 1), true);
        h.serves(0, "bA", 1);
        for (char letter = 'A'; letter <= 'F'; letter++) {
            h.nextFails(14, House.number("c" + letter));
        }
        h.dueNext(2);
        h.dueNext(-1);
        House other = new House(CHECK, "loads by its loader");
        other.simple("aA", "").entry("bA", 0, House.file(1, PUBLIC | INTERFACE, "bA", "aA"));
        other.text("SbA", "cA").archive(0).simple("cA", "aA", "bA").archive(1);
        other.loader(-1, 0).loader(0, 1);
        other.serves(0, "bA", 1);
        other.nextFails(14, House.number("cA"));
        other.serves(1, "bA", 1);
        other.dueNext(2);
        other.due("type(2, 1)", other.x.type(2, 1), 1);
    }

    /** Archive 1 and 2 serve bA too; their bodies lie at 0. */
    private static House three(String first, String second, String third) {
        House h = base("three", first);
        h.text("SbA", second).archive(1).text("SbA", third).archive(2);
        h.due("append(0, 1)", h.x.append(0, 1), true);
        h.due("append(0, 2)", h.x.append(0, 2), true);
        return h;
    }

    private static void corruptPlaces() {
        House h = three("bC", "bB", "bD");
        h.due("spoil the second", h.x.spoil(1, 2, 1), true);
        h.serves(0, "bA", 3);
        h.dueNext(3);
        h.nextFails(13, -1);
        h.nextFails(15, House.number("bD"));
        h.dueNext(-1);
        House bad = three("bC\nx\nbB", "bC\nyy\nbB\n", "bB\n\nz");
        bad.serves(0, "bA", 3);
        bad.dueNext(3);
        bad.nextFails(13, -1);
        bad.nextFails(13, -1);
        bad.dueNext(2);
        bad.nextFails(13, -1);
        bad.dueNext(-1);
        House gone = three("bC", "bB", "bD");
        gone.serves(0, "bA", 3);
        gone.due("the second is not readable", gone.x.spoil(1, 0, 1), true);
        gone.dueNext(3);
        gone.nextFails(13, -1);
        gone.nextFails(15, House.number("bD"));
        gone.dueNext(-1);
    }

    private static void setSum(House h, int slot, int at, String content) {
        int sum = House.sum(House.bytes(content));
        for (int i = 0; i < 4; i++) {
            h.set(slot, at + i, sum >>> 8 * i & 255);
        }
    }

    private static void asItIsThen() {
        House h = three("bC", "bD\nbD\nbD", "bD");
        h.serves(0, "bA", 3);
        h.dueNext(3);
        // bD in the last line of archive 1 becomes bB: its body has 10 bytes, the sum is at 15.
        h.set(1, 2 + 7, 'B');
        setSum(h, 1, 10 + 5, "bD\nbD\nbB");
        h.dueContent(8, "bD\nbD\nbB");
        h.nextFails(15, House.number("bD"));
        h.dueNext(2);
        h.dueNext(-1);
    }

    private static void goesOnAtTheByte() {
        House h = three("bC", "bD\nbC\nbB", "bD");
        h.serves(0, "bA", 3);
        h.dueNext(3);
        h.nextFails(15, House.number("bD"));
        h.set(1, 2, 'x');
        setSum(h, 1, 10 + 5, "xD\nbC\nbB");
        h.dueContent(8, "xD\nbC\nbB");
        h.dueNext(2);
        h.due("spoil the second when it is told", h.x.spoil(1, 2, 1), true);
        h.nextFails(13, -1);
        h.dueNext(-1);
    }

    private static void failedServicesKeepIt() {
        House h = base("kept", "bC\nbB");
        h.serves(0, "bA", 1);
        h.dueNext(3);
        h.due("services throws", h.thrownByServices(0, House.number("dA")), House.MISSING);
        h.dueFault(1, House.number("dA"));
        h.due("services throws", h.thrownByServices(1, House.number("bA")), House.OUT);
        h.dueFault(1, House.number("dA"));
        h.dueNext(2);
        h.dueNext(-1);
        House kinds = base("as load", "bC");
        kinds.entry("cA", 0, House.file(9, PUBLIC, "cA", "aA")).text("cB", "x");
        kinds.simple("cC", "dA").archive(1);
        kinds.due("append(0, 1)", kinds.x.append(0, 1), true);
        String[] names = {"cA", "cB", "cC"};
        int[] faults = {4, 3, 7};
        int[] culprits = {House.number("cA"), House.number("cB"), House.number("dA")};
        for (int i = 0; i < names.length; i++) {
            int kind = kinds.thrownByServices(0, House.number(names[i]));
            kinds.due("services(0, " + names[i] + ") throws", kind, House.kindOf(faults[i]));
            kinds.dueFault(faults[i], culprits[i]);
        }
    }

    private static void beginsAnew() {
        House h = base("anew", "bC\nbD\nbB");
        h.serves(0, "bA", 1);
        h.dueNext(3);
        h.nextFails(15, House.number("bD"));
        h.serves(0, "bA", 1);
        h.dueNext(3);
        h.nextFails(15, House.number("bD"));
        h.dueNext(2);
        h.dueNext(-1);
        h.serves(0, "bA", 1);
        h.dueNext(3);
        h.serves(0, "bC", 0);
        h.dueNext(-1);
    }

    private static void listStays() {
        House h = base("list", "bC");
        h.due("append(0, 1)", h.x.append(0, 1), true);
        h.serves(0, "bA", 1);
        h.text("SbA", "bB\nbD").archive(1);
        h.dueNext(3);
        h.dueNext(-1);
        h.serves(0, "bA", 2);
        h.due("close(0)", h.x.close(0), true);
        h.dueNext(3);
        h.dueNext(2);
        h.nextFails(14, House.number("bD"));
        h.dueNext(-1);
        h.serves(0, "bA", 0);
        h.dueNext(-1);
    }

    private static void ofParents() {
        House h = base("parents", "bB");
        h.simple("cA", "bC").text("SbA", "cA\nbB").archive(1).loader(0, 1, 0);
        h.serves(1, "bA", 3);
        h.dueNext(2);
        h.dueNext(4);
        h.due("type(4, 1)", h.x.type(4, 1), 1);
        h.dueNext(-1);
        h.serves(0, "bA", 1);
        h.dueNext(2);
        h.dueNext(-1);
    }

    private static void versionsOfServices() {
        House h = base("versions", "");
        h.text("M", "V:Y\n").text("SbA", "bD").text("3SbA", "bC").archive(1);
        h.due("append(0, 1)", h.x.append(0, 1), true);
        h.serves(0, "bA", 2);
        h.dueNext(3);
        h.dueNext(-1);
    }
}
