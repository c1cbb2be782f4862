import java.util.ArrayList;
import java.util.Arrays;
import java.util.List;

/** An archive told byte by byte, also one that enter() and finish() would never make. */
final class Forge {
    /** A record of the directory; what it says need not be true. */
    static final class Record {
        int[] name;
        int nameLength;
        int method;
        int sum;
        int size;
        int packed;
        int place;
    }

    private static final int END = 4;
    /** What lies around the packed bytes of an entry with a name of one byte. */
    private static final int AROUND = 15;
    private static final int SMALLEST = END + AROUND;
    private static final int MOST_DRAFTED = 120;

    /** All that lies before the directory. */
    final List<Integer> bytes = new ArrayList<>();
    final List<Record> records = new ArrayList<>();
    int mark = 80;
    int count = 0;
    int directory = 0;
    /** How many bytes lie between the last record and the end. */
    int gap = 0;

    /** Bytes that belong to no entry. */
    Forge free(int... row) {
        for (int b : row) {
            bytes.add(b);
        }
        directory += row.length;
        return this;
    }

    /** A record that says what is true of a body at the place with the packed bytes. */
    Forge record(String name, int method, int place, int packed, int... content) {
        Record r = new Record();
        r.name = House.bytes(name);
        r.nameLength = name.length();
        r.method = method;
        r.sum = House.sum(content);
        r.size = content.length;
        r.packed = packed;
        r.place = place;
        records.add(r);
        count++;
        return this;
    }

    Forge entry(String name, int method, int[] packed, int... content) {
        int place = bytes.size();
        return free(75, method).free(packed).record(name, method, place, packed.length, content);
    }

    Forge text(String name, String text) {
        return entry(name, House.STORED, House.bytes(text), House.bytes(text));
    }

    Record of(int i) {
        return records.get(i);
    }

    private static void add(List<Integer> row, int v, int n) {
        for (int i = 0; i < n; i++) {
            row.add(v >>> 8 * i & 255);
        }
    }

    int[] row() {
        List<Integer> row = new ArrayList<>(bytes);
        for (Record r : records) {
            add(row, r.nameLength, 1);
            for (int b : r.name) {
                row.add(b);
            }
            add(row, r.method, 1);
            add(row, r.sum, 4);
            add(row, r.size, 2);
            add(row, r.packed, 2);
            add(row, r.place, 2);
        }
        add(row, 0, gap);
        add(row, mark, 1);
        add(row, count, 1);
        add(row, directory, 2);
        int[] all = new int[row.size()];
        for (int i = 0; i < all.length; i++) {
            all[i] = row.get(i);
        }
        return all;
    }

    /** Makes an archive of as many bytes, and spoils those that are others. */
    House into(House h, int slot) {
        int[] row = row();
        int entries = row.length <= SMALLEST + MOST_DRAFTED ? 1 : 2;
        int drafted = row.length - END - entries * AROUND;
        int first = Math.min(drafted, MOST_DRAFTED);
        h.entry("x", House.STORED, Arrays.copyOfRange(row, 2, 2 + first));
        if (entries == 2) {
            h.entry("y", House.STORED, Arrays.copyOfRange(row, 4 + first, 4 + drafted));
        }
        h.archive(slot);
        for (int at = 0; at < row.length; at++) {
            boolean asDrafted = at >= 2 && at < 2 + first;
            int b = asDrafted ? row[at] : h.x.peek(slot, at);
            if (b != row[at]) {
                h.due("spoil(" + slot + ", " + at + ")", h.x.spoil(slot, at, b ^ row[at]), true);
            }
        }
        return h;
    }
}
