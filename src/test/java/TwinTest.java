import java.util.ArrayList;
import java.util.HashSet;
import java.util.List;
import java.util.Set;

/** Runs of all kinds of calls, whose every answer must be that of the document's second reading. */
public final class TwinTest {
    private static final Check CHECK = new Check();
    private static final int RUNS = 1000;
    /** A step takes no more calls than this. */
    private static final int DEAREST_STEP = 30;
    private static final int[] FAULTS = new int[16];
    private static int loaded = 0;
    private static int served = 0;

    private final Chance chance;
    private final Both both;
    /** Those of the entries of the archive that is made. */
    private final Set<String> names = new HashSet<>();
    /** What was spoiled and can be mended: slot, place and byte. */
    private final List<int[]> spoiled = new ArrayList<>();

    private TwinTest(long seed) {
        chance = new Chance(seed);
        both = new Both(CHECK, "run " + seed);
    }

    public static void main(String[] args) {
        // Other runs than those of each day can be had: how many, and from which seed on.
        int runs = args.length > 0 ? Integer.parseInt(args[0]) : RUNS;
        int from = args.length > 1 ? Integer.parseInt(args[1]) : 0;
        for (int seed = from; seed < from + runs; seed++) {
            new TwinTest(seed).run();
        }
        for (int fault = 1; fault <= 15; fault++) {
            CHECK.due("fault " + fault + " came often enough (" + FAULTS[fault] + ")",
                    FAULTS[fault] >= 20 || fault == 12, true);
        }
        CHECK.due("classes were loaded (" + loaded + ")", loaded > 10 * runs, true);
        CHECK.due("services were found (" + served + ")", served > runs / 2, true);
        CHECK.end();
    }

    private void run() {
        both.next();
        both.fault();
        int archives = chance.of(2, 3, 4, 4);
        for (int i = 0; i < archives; i++) {
            makeArchive(i);
        }
        both.open(chance.seldom() ? chance.wild(4) : -1);
        both.append(0, chance.seldom() ? 1 : 0);
        for (int i = 2 + chance.below(10); i > 0; i--) {
            openOrAppend();
        }
        while (both.house.calls() <= Counted.MOST_CALLS - DEAREST_STEP && !both.differ()) {
            step();
        }
    }

    private void step() {
        switch (chance.below(48)) {
            case 0: case 1: case 2: case 3: openOrAppend(); break;
            case 4: spoil(); break;
            case 5: case 6: case 7: case 8: mend(); break;
            case 9: rewrite(); break;
            case 10: dropRecord(); break;
            case 11: case 12: makeEntry(chance.oneIn(3) ? chance.wild(3) : 1); break;
            case 13: both.finish(chance.wild(4)); break;
            case 14: case 15: both.peek(chance.wild(4), chance.wild(240)); break;
            case 16: case 17: case 18: case 19: find(); break;
            case 20: case 21: case 22: readContent(); break;
            case 23: case 24: case 25: both.type(chance.wild(12), chance.wild(8)); break;
            case 26: case 27: case 28: case 29: serve(); break;
            case 30: case 31: goOn(); break;
            case 32: close(); break;
            default: load(); break;
        }
    }

    private void makeArchive(int slot) {
        if (both.twin.hasDraft()) {
            both.enter('y', 0);
        }
        if (slot == 0) {
            enterRow("aA", House.file(1, House.PUBLIC, "aA", ""));
        }
        for (int i = 3 + chance.below(4); i > 0 && !both.twin.hasDraft(); i--) {
            makeEntry(chance.below(20));
        }
        both.finish(chance.seldom() ? chance.wild(4) : slot);
        names.clear();
    }

    private void makeEntry(int kind) {
        if (kind == 0) {
            both.put(chance.number(), chance.wild(10));
            both.enter(chance.entryName(), chance.of(0, 8, 0, 1));
        } else if (kind == 19) {
            enterRow(chance.of("x", "yy", "zzz"), chance.text(125));
        } else if (kind < 5) {
            enterRow("M", House.bytes(chance.manifest()));
        } else if (kind < 9) {
            enterRow(chance.listName(), House.bytes(chance.list()));
        } else {
            String self = chance.className();
            enterRow(chance.classEntryName(self), chance.classFile(self));
        }
    }

    /** Two entries with the same name make an archive that is not sound: seldom. */
    private void enterRow(String name, int[] row) {
        if (!names.add(name) && !chance.seldom()) {
            return;
        }
        if (chance.oneIn(4)) {
            both.putAll(chance.packed(row));
            both.enter(House.name(name), 8);
        } else {
            both.putAll(row);
            both.enter(House.name(name), chance.seldom() ? chance.wild(9) : 0);
        }
    }

    private void openOrAppend() {
        if (chance.oneIn(3)) {
            both.open(chance.wild(4));
        } else {
            both.append(someLoader(), chance.wild(4));
        }
    }

    /** One that is there, or now and then one that is not. */
    private int someLoader() {
        return chance.wild(Math.max(1, both.twin.loaderCount()));
    }

    private void close() {
        if (chance.oneIn(10)) {
            both.close(someLoader());
        }
    }

    private void find() {
        both.all(someLoader(), chance.entryName(), chance.wild(4));
    }

    private void spoilByte(int slot, int at, int b) {
        if (both.spoil(slot, at, b)) {
            spoiled.add(new int[] {slot, at, b});
        }
    }

    private void spoil() {
        int slot = chance.wild(4);
        int length = 0;
        while (both.twin.peek(slot, length) != ClassHouse.NONE) {
            length++;
        }
        int at = length - 1 - chance.below(chance.of(4, 20, 100, 240));
        spoilByte(slot, at, chance.oneIn(2) ? 1 << chance.below(8) : chance.wild(256));
    }

    /** Takes back what was spoiled last, all of it or a part. */
    private void mend() {
        for (int i = 0; i < DEAREST_STEP / 2 && !spoiled.isEmpty(); i++) {
            int[] last = spoiled.remove(spoiled.size() - 1);
            both.spoil(last[0], last[1], last[2]);
        }
    }

    private void write(int slot, int at, int v, int n) {
        for (int i = 0; i < n; i++) {
            int b = both.twin.peek(slot, at + i) ^ v >>> 8 * i & 255;
            if (b != 0) {
                spoilByte(slot, at + i, b);
            }
        }
    }

    /** Changes an entry that is packed as it is, so that it is not corrupt. */
    private void rewrite() {
        int slot = chance.below(4);
        List<Twin.Entry> records = both.twin.recordsOf(slot);
        if (records == null || records.isEmpty()) {
            return;
        }
        Twin.Entry e = records.get(chance.below(records.size()));
        int size = e.packed.length() + chance.of(0, 0, -3, -1, 1, 3);
        if (e.method != 0 || size < 1) {
            return;
        }
        spoilByte(slot, e.place + 2 + chance.below(size), chance.of(0, 1, 1, 2, 7, 'a' ^ 10));
        StringBuilder content = new StringBuilder();
        for (int i = 0; i < size; i++) {
            content.append((char) both.twin.peek(slot, e.place + 2 + i));
        }
        int rest = e.record + 2 + e.name.length();
        write(slot, rest, Twin.sumOf(content.toString()), 4);
        write(slot, rest + 4, size, 2);
        write(slot, rest + 6, size, 2);
    }

    /** The directory begins one record later: there is room before it then. */
    private void dropRecord() {
        int slot = chance.below(4);
        List<Twin.Entry> records = both.twin.recordsOf(slot);
        if (records != null && records.size() > 1) {
            int length = 0;
            while (both.twin.peek(slot, length) != ClassHouse.NONE) {
                length++;
            }
            write(slot, length - 3, records.size() - 1, 1);
            write(slot, length - 2, records.get(1).record, 2);
        }
    }

    private void readContent() {
        int place = chance.wild(32);
        int from = chance.wild(12);
        for (int i = 0; i < 3; i++) {
            both.content(place, from + i);
        }
    }

    /** Mostly one of which an archive has an entry or a list. */
    private int someClass() {
        List<Twin.Entry> records = both.twin.recordsOf(chance.below(4));
        if (records != null && !records.isEmpty() && !chance.oneIn(8)) {
            String name = records.get(chance.below(records.size())).name.replaceAll("^[23]?S?", "");
            return name.matches("[a-d][A-H]") ? House.number(name) : 0;
        }
        return chance.oneIn(10) ? chance.wild(32) : House.number(chance.className());
    }

    private void tellFault() {
        FAULTS[(int) both.fault()]++;
        both.culprit();
    }

    private void load() {
        long answer = both.load(someLoader(), someClass());
        loaded += answer >= 0 ? 1 : 0;
        tellFault();
    }

    private void serve() {
        both.services(someLoader(), chance.oneIn(2) ? someClass() : 0);
        tellFault();
        goOn();
    }

    private void goOn() {
        long answer = 0;
        for (int i = 1 + chance.below(6); i > 0 && answer != ClassHouse.NONE; i--) {
            answer = both.next();
            served += answer >= 0 ? 1 : 0;
            tellFault();
        }
    }
}
