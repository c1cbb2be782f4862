import java.util.function.Function;
import java.util.function.Supplier;

/** What is refused changes nothing: all calls behind it answer as if it had not been. */
public final class RefusedTest {
    private static final Check CHECK = new Check();
    private static final int LOWEST = Integer.MIN_VALUE;
    private static final int HIGHEST = Integer.MAX_VALUE;
    private static final int[] FAR = {LOWEST, -1, 4, HIGHEST};

    public static void main(String[] args) {
        picturesShowWhatChanges();
        put();
        putWhenFull();
        enter();
        enterWhenFull();
        finish();
        spoil();
        open();
        append();
        close();
        loadOutOfBounds();
        servicesOutOfBounds();
        servicesWithAFault();
        queries();
        CHECK.end();
    }

    /** Much is there: archives, loaders, classes, an iteration half told, a fault, a draft. */
    private static House furnished() {
        House h = new House(CHECK, "furnished");
        h.simple("aA", "").entry("bA", 0, House.file(1, 5, "bA", "aA")).simple("bB", "aA", "bA");
        h.text("SbA", "bB\nbC\ncA").archive(0);
        h.simple("bC", "bB").text("M", "Z:c\n").archive(1);
        h.loader(-1, 0, 1).loader(0, 2);
        h.serves(0, "bA", 1);
        h.dueNext(2);
        h.fails(1, "dA", 1, "dA");
        h.text("q", "made").draft('d', 'r', 'a', 'f', 't');
        return h;
    }

    private static House begun() {
        return new House(CHECK, "begun");
    }

    private static House fullDraft() {
        House h = begun();
        h.draft(new int[118]);
        return h;
    }

    private static House sixEntries() {
        House h = begun();
        for (int i = 0; i < 6; i++) {
            h.text("e" + i, "" + i);
        }
        h.draft(1, 2, 3);
        return h;
    }

    /** 4 + 115 bytes are there, and there is room for 121 more. */
    private static House nearly240() {
        House h = begun();
        h.entry("a", 0, new int[100]).draft(new int[107]);
        return h;
    }

    private static House fourLoaders() {
        House h = begun();
        return h.loader(-1, 0, 1, 2, 3).loader(0, 3, 3).loader(1).loader(0);
    }

    private static House closedOnes() {
        House h = begun();
        h.simple("aA", "").archive(0).loader(-1, 0).loader(0, 0);
        h.due("close(1)", h.x.close(1), true);
        return h;
    }

    /** The call must be answered so, and behind it the object must look as if it had not been. */
    private static void same(String what, Supplier<House> base, String answer,
            Function<House, Object> call) {
        House h = base.get();
        String got;
        try {
            got = "" + call.apply(h);
        } catch (RuntimeException e) {
            got = e.getClass().getSimpleName();
        }
        CHECK.due(what, got, answer);
        CHECK.due(what + " changed nothing", Picture.of(h), Picture.of(base.get()));
    }

    /** A picture that showed nothing would make all the tests here void. */
    private static void picturesShowWhatChanges() {
        String plain = Picture.of(furnished());
        CHECK.due("two pictures are the same", Picture.of(furnished()), plain);
        changes("put", h -> h.x.put(1, 1), plain);
        changes("enter", h -> h.x.enter('r', 0), plain);
        changes("finish", h -> h.x.finish(3), plain);
        changes("spoil", h -> h.x.spoil(1, 2, 1), plain);
        changes("open", h -> h.x.open(1), plain);
        changes("append", h -> h.x.append(1, 1), plain);
        changes("close", h -> h.x.close(1), plain);
        changes("load", h -> h.x.load(0, House.number("bC")), plain);
        changes("next", h -> h.x.next(), plain);
        changes("services", h -> h.x.services(0, House.number("bA")), plain);
    }

    private static void changes(String what, Function<House, Object> call, String plain) {
        House h = furnished();
        call.apply(h);
        CHECK.due(what + " is seen in the picture", !Picture.of(h).equals(plain), true);
    }

    /** Promise 2: "false if n is not 1 .. 8". */
    private static void put() {
        int[] wrong = {LOWEST, -1, 0, 9, 16, HIGHEST};
        for (int n : wrong) {
            same("put(-1, " + n + ")", RefusedTest::furnished, "false", h -> h.x.put(-1, n));
        }
    }

    /** Promise 2: "or it would be more than 120". */
    private static void putWhenFull() {
        for (int n = 3; n <= 8; n++) {
            int bytes = n;
            same("118 and " + n, RefusedTest::fullDraft, "false", h -> h.x.put(-1, bytes));
        }
    }

    /** Promise 3: "False (changing nothing) if it is no name .., the method is not 0 or 8". */
    private static void enter() {
        int[] noNames = {LOWEST, -1, 0, 32, 127, 'a' << 8, 'a' | 32 << 8, 'a' | 'b' << 24};
        for (int name : noNames) {
            same("enter(" + name + ", 0)", RefusedTest::furnished, "false",
                    h -> h.x.enter(name, 0));
        }
        int[] noMethods = {LOWEST, -1, 1, 7, 9, HIGHEST};
        for (int method : noMethods) {
            same("enter(a, " + method + ")", RefusedTest::furnished, "false",
                    h -> h.x.enter('a', method));
        }
    }

    /** Promise 3: "6 entries are there, or it would have more than 240 bytes". */
    private static void enterWhenFull() {
        same("a seventh", RefusedTest::sixEntries, "false", h -> h.x.enter('a', 0));
        same("a seventh inflated", RefusedTest::sixEntries, "false", h -> h.x.enter('a', 8));
        same("241 bytes", RefusedTest::nearly240, "false", h -> h.x.enter('b', 0));
        same("244 bytes", RefusedTest::nearly240, "false", h -> h.x.enter(House.name("bcde"), 8));
    }

    /** Promise 4: "False if there is no such slot, or an archive in it." */
    private static void finish() {
        int[] wrong = {LOWEST, -1, 0, 1, 4, HIGHEST};
        for (int slot : wrong) {
            same("finish(" + slot + ")", RefusedTest::furnished, "false", h -> h.x.finish(slot));
        }
    }

    /** Promise 5: "false if there is no such byte, or b is not 0 .. 255". */
    private static void spoil() {
        int[][] wrong = {{0, -1, 1}, {0, 200, 1}, {1, LOWEST, 1}, {1, HIGHEST, 1}, {2, 0, 1},
            {3, 0, 1}, {-1, 0, 1}, {4, 0, 1}, {LOWEST, 0, 1}, {0, 0, -1}, {0, 0, 256},
            {0, 2, LOWEST}, {0, 2, HIGHEST}, {1, 3, 257}};
        for (int[] call : wrong) {
            same("spoil(" + call[0] + ", " + call[1] + ", " + call[2] + ")",
                    RefusedTest::furnished, "false", h -> h.x.spoil(call[0], call[1], call[2]));
        }
    }

    /** Promise 7: "NONE if there are 4, or parent is not as it must be". */
    private static void open() {
        int[] wrong = {LOWEST, -2, -1, 2, 3, 4, HIGHEST};
        for (int parent : wrong) {
            same("open(" + parent + ")", RefusedTest::furnished, "-1", h -> h.x.open(parent));
        }
        for (int parent = -2; parent <= 4; parent++) {
            int below = parent;
            same("a fifth below " + parent, RefusedTest::fourLoaders, "-1", h -> h.x.open(below));
            if (parent != -1) {
                same("the first below " + parent, RefusedTest::begun, "-1", h -> h.x.open(below));
            }
        }
    }

    /** Promise 8: "false if there is no such loader or slot, it is closed, or 4 were". */
    private static void append() {
        int[] noLoaders = {LOWEST, -1, 2, 3, 4, HIGHEST};
        for (int loader : noLoaders) {
            same("append(" + loader + ", 0)", RefusedTest::furnished, "false",
                    h -> h.x.append(loader, 0));
        }
        for (int slot : FAR) {
            same("append(0, " + slot + ")", RefusedTest::furnished, "false",
                    h -> h.x.append(0, slot));
        }
        for (int slot = 0; slot < 4; slot++) {
            int again = slot;
            same("a fifth, " + slot, RefusedTest::fourLoaders, "false",
                    h -> h.x.append(0, again));
            same("append(1, " + slot + ") when closed", RefusedTest::closedOnes, "false",
                    h -> h.x.append(1, again));
        }
    }

    /** Promise 9: "false if there is none, or it is closed". */
    private static void close() {
        int[] none = {LOWEST, -1, 2, 3, 4, HIGHEST};
        for (int loader : none) {
            same("close(" + loader + ")", RefusedTest::furnished, "false",
                    h -> h.x.close(loader));
        }
        same("close(1) again", RefusedTest::closedOnes, "false", h -> h.x.close(1));
        same("close(0) of none", RefusedTest::begun, "false", h -> h.x.close(0));
    }

    private static final int[][] OUT = {{-1, 8}, {2, 8}, {4, 8}, {0, -1}, {0, 32}, {1, 32},
        {LOWEST, 8}, {HIGHEST, 8}, {0, LOWEST}, {0, HIGHEST}, {-1, 32}};

    /** "What throws IndexOutOfBoundsException changes nothing (nor the fault)" */
    private static void loadOutOfBounds() {
        for (int[] call : OUT) {
            same("load(" + call[0] + ", " + call[1] + ")", RefusedTest::furnished,
                    "IndexOutOfBoundsException", h -> h.x.load(call[0], call[1]));
        }
        same("load(0, 0) of none", RefusedTest::begun, "IndexOutOfBoundsException",
                h -> h.x.load(0, 0));
    }

    /** The same of services(), behind which the iteration goes on. */
    private static void servicesOutOfBounds() {
        for (int[] call : OUT) {
            same("services(" + call[0] + ", " + call[1] + ")", RefusedTest::furnished,
                    "IndexOutOfBoundsException", h -> h.x.services(call[0], call[1]));
        }
        same("services(0, 0) of none", RefusedTest::begun, "IndexOutOfBoundsException",
                h -> h.x.services(0, 0));
    }

    /** Promise 16: "and then the iteration stays": the fault here is the one that there was. */
    private static void servicesWithAFault() {
        same("services(1, dA)", RefusedTest::furnished, "NoSuchElementException",
                h -> h.x.services(1, House.number("dA")));
        same("load(1, dA)", RefusedTest::furnished, "NoSuchElementException",
                h -> h.x.load(1, House.number("dA")));
    }

    /** Promises 6 and 11 to 15 tell, and change nothing, whatever they are asked. */
    private static void queries() {
        int[] some = {LOWEST, -1, 0, 1, 2, 3, 4, 8, 31, 32, 200, HIGHEST};
        for (int a : some) {
            same("queries with " + a, RefusedTest::furnished, "0", h -> {
                h.x.fault();
                h.x.culprit();
                for (int b = -1; b <= 8; b += 3) {
                    h.x.peek(a, b);
                    h.x.type(a, b);
                    h.x.all(a, House.name("SbA"), b);
                    h.x.all(0, a, b);
                    h.x.content(a, b);
                }
                return 0;
            });
        }
    }
}
