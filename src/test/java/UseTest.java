/** "An object is used for at most 512 calls after it has been made": up to the last, and full. */
public final class UseTest {
    private static final Check CHECK = new Check();

    public static void main(String[] args) {
        answersUpToTheLastCall();
        servesUpToTheLastCall();
        fullArchives();
        asManyClassesAsFit();
        deepestLoad();
        CHECK.end();
    }

    /** The 512th call answers as a first one would. */
    private static void answersUpToTheLastCall() {
        House h = new House(CHECK, "512 calls");
        h.simple("aA", "").simple("bA", "aA").archive(0).loader(-1, 0);
        while (h.x.calls() < Counted.MOST_CALLS - 4) {
            h.due("load(0, dH) throws", h.thrownByLoad(0, 31), House.MISSING);
        }
        h.dueFault(1, 31);
        h.due("type(0, 0)", h.x.type(0, 0), -1);
        h.due("load(0, bA) throws", h.thrownByLoad(0, 8), 0);
        h.due("load(0, bA)", h.latest, 1);
        h.due("calls", h.x.calls(), 512);
    }

    /** An iteration that is begun again and again goes on to the last call. */
    private static void servesUpToTheLastCall() {
        House h = new House(CHECK, "512 calls of services");
        h.simple("aA", "").text("SaA", "aA\naB\nx").archive(0).loader(-1, 0);
        while (h.x.calls() <= Counted.MOST_CALLS - 6) {
            h.due("services throws", h.thrownByServices(0, 0), 0);
            h.due("next() throws", h.thrownByNext(), 0);
            h.due("next()", h.latest, 0);
            h.due("next() of aB throws", h.thrownByNext(), House.STATE);
            h.due("fault()", h.x.fault(), 14);
            h.due("next() of x throws", h.thrownByNext(), House.STATE);
            h.due("fault()", h.x.fault(), 13);
        }
        while (h.x.calls() < Counted.MOST_CALLS) {
            h.due("next() at its end throws", h.thrownByNext(), 0);
            h.due("next() at its end", h.latest, -1);
        }
    }

    /** Four archives of 240 bytes with 6 entries, all of which can be read. */
    private static void fullArchives() {
        House h = new House(CHECK, "full archives");
        for (int slot = 0; slot < 4; slot++) {
            for (int i = 0; i < 6; i++) {
                // 6 entries with names of 2 bytes and these packed bytes, and 4, are 240.
                int[] row = new int[i < 5 ? 23 : 240 - 4 - 5 * (16 + 23) - 16];
                row[row.length - 1] = 40 * slot + i;
                h.entry("e" + i, 0, row);
            }
            h.archive(slot);
            h.due("the last byte", h.x.peek(slot, 239), 0);
            h.due("behind it", h.x.peek(slot, 240), -1);
        }
        h.loader(-1, 3, 2, 1, 0);
        for (int slot = 0; slot < 4; slot++) {
            for (int i = 0; i < 6; i++) {
                int last = i < 5 ? 22 : 24;
                h.due("all", h.x.all(0, House.name("e" + i), 3 - slot), 8 * slot + i);
                h.due("its last byte", h.x.content(8 * slot + i, last), 40 * slot + i);
                h.due("behind it", h.x.content(8 * slot + i, last + 1), -1);
            }
        }
    }

    /** 18 classes, each below the one before, as three full archives have them. */
    private static House chain(String about) {
        House h = new House(CHECK, about);
        h.simple("aA", "").text("SaA", "dF\nbA\n").archive(0);
        String before = "aA";
        for (int slot = 1; slot < 4; slot++) {
            for (int i = 0; i < 6; i++) {
                String name = "" + (char) ('a' + slot) + (char) ('A' + i);
                h.simple(name, before);
                before = name;
            }
            h.archive(slot);
        }
        return h;
    }

    /** Each of four loaders defines the same 18 names, the lowest loader first. */
    private static void asManyClassesAsFit() {
        House h = chain("many classes");
        h.loader(-1, 0).loader(0).loader(1).loader(2);
        for (int k = 3; k >= 0; k--) {
            for (int slot = 1; slot < 4; slot++) {
                h.due("append(" + k + ", " + slot + ")", h.x.append(k, slot), true);
            }
            h.loads(k, "dF", 18 * (4 - k));
            h.loads(3, "dF", 18);
        }
        for (int n = 1; n <= 72; n++) {
            int letter = (n - 1) % 18;
            h.due("the name of " + n, h.x.type(n, 0), 8 * (1 + letter / 6) + letter % 6);
            h.due("the loader of " + n, h.x.type(n, 1), 3 - (n - 1) / 18);
            h.due("the archive of " + n, h.x.type(n, 2), 1 + letter / 6);
            h.due("the super class of " + n, h.x.type(n, 3), letter == 0 ? 0 : n - 1);
        }
        h.due("no class behind", h.x.type(73, 0), -1);
        servesTheLast(h);
    }

    /** The first class is above the last one, "of these, and so on", 18 super classes further up. */
    private static void servesTheLast(House h) {
        h.serves(0, "aA", 1);
        h.dueNext(72);
        h.dueNext(55);
        h.dueNext(-1);
    }

    /** A circle at the far end of the longest chain, through all loaders, is found. */
    private static void deepestLoad() {
        House h = chain("deepest");
        h.loader(-1, 1).loader(0, 2).loader(1, 3).loader(2);
        h.fails(3, "dF", 7, "aA");
        h.fails(0, "dF", 1, "dF");
        // In archive 1, bA has itself as its super class then.
        h.set(1, 2 + 5, 'b');
        int sum = House.sum(House.file(1, House.PUBLIC, "bA", "bA"));
        for (int i = 0; i < 4; i++) {
            h.set(1, 60 + 4 + i, sum >>> 8 * i & 255);
        }
        h.fails(3, "dF", 6, "bA");
        h.fails(1, "cF", 6, "bA");
        h.fails(0, "bF", 6, "bA");
        h.due("type(0, 0)", h.x.type(0, 0), -1);
    }
}
