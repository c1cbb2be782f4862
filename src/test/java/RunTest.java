import com.sun.management.ThreadMXBean;
import java.lang.management.ManagementFactory;
import java.util.Random;

/** Long runs: no call throws but as the document says, the same calls answer the same, room. */
public final class RunTest {
    private static final Check CHECK = new Check();
    private static final int MOST_CALLS_OF_A_STEP = 8;
    private static final int[] WILD = {
        -1, -2, 4, 5, 6, 7, 8, 31, 32, 33, 239, 240, 255, 256, 65535, 1 << 24,
        Integer.MAX_VALUE, Integer.MIN_VALUE, Integer.MIN_VALUE + 1
    };
    private static final String[] NAMES = {
        "M", "aA", "bA", "bB", "2bA", "3bB", "SbA", "cA", "SaA", "aB"
    };
    private static final String[] TEXTS = {
        "P:0123\n", "P:1\nZ:b\nV:Y\n", "V:Y\n", "Z:ab\n", "bA\nbB\ncA\n", " bB#\nx", "P:9\n"
    };

    public static void main(String[] args) {
        for (int seed = 0; seed < 400; seed++) {
            long first = run(seed);
            if (seed % 20 == 0) {
                CHECK.due("run " + seed + " again", run(seed), first);
            }
        }
        CHECK.due("loads that found a class", found > 500, true);
        CHECK.due("services that were found", served > 5, true);
        keepsItsRoom();
        CHECK.end();
    }

    private static int found = 0;
    private static int served = 0;

    private static int some(Random random, int below) {
        return random.nextInt(12) == 0 ? WILD[random.nextInt(WILD.length)] : random.nextInt(below);
    }

    private static int someName(Random random) {
        return random.nextInt(20) == 0 ? random.nextInt()
                : House.name(NAMES[random.nextInt(NAMES.length)]);
    }

    private static int someClass(Random random) {
        int[] often = {0, 8, 9, 16, 1};
        return random.nextInt(4) == 0 ? some(random, 32) : often[random.nextInt(often.length)];
    }

    /** Drafts a class file, a text, or bytes of any kind, and enters it. */
    private static int make(Counted x, Random random) {
        int name = someName(random);
        int kind = random.nextInt(10);
        int[] row = new int[random.nextInt(30)];
        if (kind < 6) {
            String[] all = {"aA", "bA", "bB", "cA"};
            String self = all[random.nextInt(4)];
            name = random.nextInt(10) == 0 ? name : House.name(self);
            int flags = random.nextInt(6) == 0 ? random.nextInt(9) : random.nextInt(2) * 4 + 1;
            String upper = self.equals("aA") ? "" : random.nextInt(3) == 0 ? "bB" : "aA";
            row = random.nextInt(3) == 0 ? House.file(1, flags, self, upper, "bA")
                    : House.file(1 + random.nextInt(3), flags, self, upper);
        } else if (kind < 8) {
            row = House.bytes(TEXTS[random.nextInt(TEXTS.length)]);
        } else {
            for (int i = 0; i < row.length; i++) {
                row[i] = random.nextInt(256);
            }
        }
        x.putAll(row);
        return x.enter(name, random.nextInt(8) == 0 ? some(random, 9) : 0) ? 1 : 0;
    }

    private static void dueKind(Counted x, RuntimeException e, int faultBefore) {
        int fault = x.fault();
        Class<?> want = e instanceof IndexOutOfBoundsException ? IndexOutOfBoundsException.class
                : fault == 1 || fault == 2 ? java.util.NoSuchElementException.class
                : fault == 4 ? UnsupportedOperationException.class
                : fault == 3 || fault == 5 || fault == 10 || fault == 11
                ? IllegalArgumentException.class : IllegalStateException.class;
        CHECK.due("what is thrown for fault " + fault, e.getClass() == want, true);
        boolean stays = e instanceof IndexOutOfBoundsException;
        CHECK.due("a fault is told, or stays", stays ? fault == faultBefore : fault != 0, true);
    }

    private static int loadOrServe(Counted x, Random random, int which) {
        int before = x.fault();
        try {
            int answer = which == 0 ? x.load(some(random, 3), someClass(random))
                    : which == 1 ? x.services(some(random, 3), someClass(random)) : x.next();
            CHECK.due("the fault behind an answer", x.fault(), 0);
            CHECK.due("the culprit behind an answer", x.culprit(), -1);
            found += which == 0 ? 1 : 0;
            served += which == 2 && answer >= 0 ? 1 : 0;
            return answer;
        } catch (IndexOutOfBoundsException | java.util.NoSuchElementException
                | UnsupportedOperationException | IllegalArgumentException
                | IllegalStateException e) {
            dueKind(x, e, before);
            return -100 - x.fault() * 40 - x.culprit();
        }
    }

    private static int call(Counted x, Random random) {
        switch (random.nextInt(16)) {
            case 0: return x.put(random.nextLong(), some(random, 9)) ? 1 : 0;
            case 1: return make(x, random);
            case 2: return random.nextInt(3) == 0 ? x.finish(some(random, 4)) ? 1 : 0
                    : make(x, random);
            case 3: return random.nextInt(3) != 0 ? 0
                    : x.spoil(some(random, 4), some(random, 240), some(random, 256)) ? 1 : 0;
            case 4: return x.peek(some(random, 4), some(random, 240));
            case 5: return x.open(some(random, 4) - 1);
            case 6: return x.append(some(random, 4), some(random, 4)) ? 1 : 0;
            case 7: return random.nextInt(20) == 0 && x.close(some(random, 4)) ? 1 : 0;
            case 8: return x.type(some(random, 20), some(random, 8));
            case 9: return x.all(some(random, 4), someName(random), some(random, 5));
            case 10: return x.content(some(random, 32), some(random, 20));
            case 11: return loadOrServe(x, random, 1);
            case 12: case 13: return loadOrServe(x, random, 2);
            default: return loadOrServe(x, random, 0);
        }
    }

    private static long run(int seed) {
        Random random = new Random(seed);
        Counted x = new Counted(CHECK, "run " + seed);
        long answers = x.open(-1);
        furnish(x, random);
        try {
            while (x.calls() <= Counted.MOST_CALLS - MOST_CALLS_OF_A_STEP) {
                answers = 31 * answers + call(x, random);
            }
        } catch (RuntimeException e) {
            CHECK.due("run " + seed + " throws " + e, true, false);
        }
        return answers;
    }

    /** A root and a list of services, so that some loads succeed, and archives of any kind. */
    private static void furnish(Counted x, Random random) {
        enter(x, "aA", House.file(1, 1, "aA", ""));
        enter(x, "bA", House.file(1, 5, "bA", "aA"));
        enter(x, "SbA", House.bytes("bB\ncA"));
        x.finish(random.nextInt(2));
        for (int i = 0; i < 12; i++) {
            make(x, random);
            if (i % 4 == 3) {
                x.finish(random.nextInt(4));
            }
        }
        for (int i = 0; i < 4; i++) {
            x.append(0, i);
        }
    }

    private static void enter(Counted x, String name, int[] row) {
        x.putAll(row);
        x.enter(House.name(name), 0);
    }

    /** The dearest calls again and again: they may make next to nothing. */
    private static void keepsItsRoom() {
        ThreadMXBean bean = (ThreadMXBean) ManagementFactory.getThreadMXBean();
        long id = Thread.currentThread().getId();
        askMuch(dearest().x);
        House h = dearest();
        long before = bean.getThreadAllocatedBytes(id);
        askMuch(h.x);
        long made = bean.getThreadAllocatedBytes(id) - before;
        h.due("bytes made by many calls are few (" + made + ")", made < 100_000, true);
        before = bean.getThreadAllocatedBytes(id);
        ClassHouse another = new ClassHouse();
        made = bean.getThreadAllocatedBytes(id) - before;
        h.due("bytes made for an object are few (" + made + ")", made < 100_000, true);
        h.due("its answer", another.fault(), 0);
    }

    private static House dearest() {
        House h = new House(CHECK, "room");
        h.simple("aA", "").simple("bA", "aA").text("M", "P:123\nV:Y\n").archive(0);
        h.entry("M", 8, new Bits().block(true, 1).letters("P:321\n").letter(256).bytes());
        h.simple("bB", "bA").simple("bC", "bB").archive(1);
        h.simple("bD", "bC").simple("bE", "bD").simple("bF", "bE").archive(2);
        h.text("SaA", "aA\nbA\nbB\nbC\n").archive(3);
        return h.loader(-1, 0, 1, 2, 3).loader(0, 0, 1, 2, 3).loader(1, 0, 1, 2, 3)
                .loader(2, 0, 1, 2, 3);
    }

    private static void askMuch(Counted x) {
        while (x.calls() <= Counted.MOST_CALLS - MOST_CALLS_OF_A_STEP) {
            x.load(3, House.number("bF"));
            x.services(3, 0);
            x.next();
            x.next();
            x.all(3, House.name("bA"), 15);
            x.content(8, 1);
            x.spoil(1, 2, 0);
            x.type(3, 3);
        }
    }
}
