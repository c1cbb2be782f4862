import java.util.Arrays;

/** The boundary cases of what makes an archive sound, and an entry corrupt. */
public final class SoundEdgesTest {
    private static final Check CHECK = new Check();
    private static final String CORRUPT = "-2";

    public static void main(String[] args) {
        asForged();
        endMark();
        zeroToSixRecords();
        asManyRecordsAsTold();
        directoryFromD();
        directoryUpToTheEnd();
        namesOfOneToFour();
        bytesOfNames();
        methods0And8();
        sizesUpTo200();
        markOfABody();
        methodAgain();
        bodiesBeforeTheDirectory();
        placesFarOut();
        bodiesOfTwoBytes();
        noByteInCommon();
        bodiesInAnyOrder();
        noNameTwice();
        contentOfSizeBytes();
        contentWithItsSum();
        storedUpTo200();
        smallestArchive();
        largestArchive();
        CHECK.end();
    }

    /** An archive whose first entry, w with the content W, tells whether it is sound. */
    private static Forge withWitness() {
        return new Forge().text("w", "W");
    }

    private static House due(String what, Forge forge, boolean sound) {
        House h = forge.into(new House(CHECK, what), 0).loader(-1, 0);
        h.dueContent(0, sound ? "W" : CORRUPT);
        h.due("all(0, w, 0)", h.x.all(0, 'w', 0), sound ? 0 : -1);
        return h;
    }

    /** What is forged as enter() and finish() make it has the same bytes. */
    private static void asForged() {
        House made = new House(CHECK, "made");
        made.text("w", "W").text("ab", "content").archive(0);
        int[] row = withWitness().text("ab", "content").row();
        for (int i = 0; i <= row.length; i++) {
            made.due("peek(0, " + i + ")", made.x.peek(0, i), i < row.length ? row[i] : -1);
        }
        due("forged", withWitness().text("ab", "content"), true).dueContent(1, "content");
    }

    /** "its last four bytes are 80, .." */
    private static void endMark() {
        int[] marks = {0, 75, 79, 80, 81, 208, 255};
        for (int mark : marks) {
            Forge forge = withWitness();
            forge.mark = mark;
            due("end mark " + mark, forge, mark == 80);
        }
    }

    /** "n (0 .. 6)": of archives that are right in all else, one with 7 records is not sound. */
    private static void zeroToSixRecords() {
        for (int n = 1; n <= 8; n++) {
            Forge forge = withWitness();
            for (int i = 1; i < n; i++) {
                forge.text("" + (char) ('a' + i), "");
            }
            House h = due(n + " records", forge, n <= 6);
            for (int i = 1; i < 8; i++) {
                h.dueContent(i, i < n && n <= 6 ? "" : CORRUPT);
            }
        }
    }

    /** "it is n records": no fewer and no more than n says. */
    private static void asManyRecordsAsTold() {
        for (int told = 0; told <= 8; told++) {
            Forge forge = withWitness().text("a", "").text("b", "");
            forge.count = told;
            due("3 records, told " + told, forge, told == 3);
        }
        Forge most = withWitness();
        most.count = 255;
        due("255 told", most, false);
    }

    /** "the directory lies from d to .." */
    private static void directoryFromD() {
        int[] steps = {-3, -2, -1, 0, 1, 2, 13, 26, 27, 30, 256, 65280};
        for (int step : steps) {
            Forge forge = withWitness().text("a", "");
            forge.directory += step;
            due("d " + step + " further", forge, step == 0);
        }
        for (int free = 1; free <= 3; free++) {
            Forge forge = withWitness();
            forge.free(new int[free]);
            due(free + " free bytes before d", forge, true);
        }
        Forge large = withWitness().free(new int[197]);
        due("d is 200", large, true);
        CHECK.due("that d", large.directory, 200);
        Forge largest = withWitness().free(new int[220]);
        due("240 bytes", largest, true);
        CHECK.due("its bytes", largest.row().length, 240);
    }

    /** ".. to before these four" */
    private static void directoryUpToTheEnd() {
        for (int gap = 0; gap <= 3; gap++) {
            Forge forge = withWitness().text("a", "");
            forge.gap = gap;
            due(gap + " bytes behind the last record", forge, gap == 0);
        }
        Forge cut = withWitness();
        cut.record("", 0, 0, 0);
        due("a last record that is cut", cut, false);
    }

    /** Names: "1 to 4 bytes", with records that are as long as they say. */
    private static void namesOfOneToFour() {
        String[] names = {"", "a", "ab", "abc", "abcd", "abcde"};
        for (String name : names) {
            boolean fits = name.length() >= 1 && name.length() <= 4;
            House h = due("a name of " + name.length(), withWitness().text(name, "in"), fits);
            h.dueContent(1, fits ? "in" : CORRUPT);
        }
        int[] told = {0, 1, 2, 3, 4, 5, 14, 255};
        for (int n : told) {
            Forge forge = withWitness().text("ab", "in");
            forge.of(1).nameLength = n;
            due("a name of 2, told " + n, forge, n == 2);
        }
    }

    /** Names: "bytes 33 .. 126". */
    private static void bytesOfNames() {
        int[] bytes = {0, 10, 32, 33, 126, 127, 128, 255};
        for (int length = 1; length <= 4; length++) {
            for (int at = 0; at < length; at++) {
                for (int b : bytes) {
                    Forge forge = withWitness().text("abcd".substring(0, length), "");
                    forge.of(1).name[at] = b;
                    due("byte " + b + " at " + at + " of " + length, forge, b >= 33 && b <= 126);
                }
            }
        }
    }

    /** "the METHOD 0 or 8", the same in the record and in the body. */
    private static void methods0And8() {
        int[] methods = {0, 1, 7, 8, 9, 128, 136, 255};
        int[] nothing = new Bits().block(true, 1).letter(256).bytes();
        for (int method : methods) {
            int[] packed = method == 8 ? nothing : new int[0];
            House h = due("method " + method, withWitness().entry("a", method, packed),
                    method == 0 || method == 8);
            h.dueContent(1, method == 0 || method == 8 ? "" : CORRUPT);
        }
    }

    /** "the SIZE (two, at most 200)": what is not true is corrupt, but above 200 not sound. */
    private static void sizesUpTo200() {
        int[] sizes = {0, 1, 2, 3, 199, 200, 201, 255, 256, 258, 512, 32768, 65535};
        for (int size : sizes) {
            Forge forge = withWitness().text("a", "xy");
            forge.of(1).size = size;
            House h = due("size " + size, forge, size <= 200);
            h.dueContent(1, size == 2 ? "xy" : CORRUPT);
        }
    }

    /** "at each place there is a BODY: 75, .." */
    private static void markOfABody() {
        int[] marks = {0, 74, 75, 76, 80, 203, 255};
        for (int mark : marks) {
            Forge forge = withWitness().text("a", "");
            forge.bytes.set(forge.of(1).place, mark);
            due("a body's mark " + mark, forge, mark == 75);
        }
    }

    /** ".. the method again" */
    private static void methodAgain() {
        for (int first = 0; first <= 8; first += 8) {
            for (int again = 0; again <= 9; again++) {
                Forge forge = withWitness().entry("a", first, new int[0]);
                forge.bytes.set(forge.of(1).place + 1, again);
                due("method " + first + " and " + again, forge, first == again);
            }
        }
    }

    /** "all bodies lie before d": one may end where d is, and not behind. */
    private static void bodiesBeforeTheDirectory() {
        for (int more = -2; more <= 2; more++) {
            Forge forge = withWitness().text("a", "xy");
            forge.of(1).packed += more;
            due("packed bytes up to d and " + more, forge, more <= 0);
        }
        Forge last = withWitness().free(0, 75, 0);
        last.record("a", 0, last.directory - 2, 0);
        due("an empty body right before d", last, true).dueContent(1, "");
        Forge half = withWitness().free(0, 75);
        half.record("a", 0, half.directory - 1, 0);
        due("half a body before d", half, false);
    }

    /** A place or packed size of two bytes may say more than there is. */
    private static void placesFarOut() {
        int[] far = {240, 255, 256, 259, 32768, 65280, 65283, 65534, 65535};
        for (int v : far) {
            Forge place = withWitness().text("a", "");
            place.of(1).place = v;
            due("place " + v, place, false);
            Forge packed = withWitness().text("a", "");
            packed.of(1).packed = v;
            due("packed size " + v, packed, false);
            Forge both = withWitness().text("a", "");
            both.of(1).place = v;
            both.of(1).packed = 65536 - v;
            due("place " + v + " and packed size " + (65536 - v), both, false);
        }
    }

    /** "(bodies have two bytes at least)": so two empty ones lie apart, or have bytes in common. */
    private static void bodiesOfTwoBytes() {
        int[] row = {75, 0, 75, 0};
        for (int place = 3; place <= 5; place++) {
            Forge forge = withWitness().free(row).record("a", 0, 3, 0).record("b", 0, place, 0);
            due("empty bodies at 3 and " + place, forge, place == 5);
            Forge back = withWitness().free(row).record("a", 0, place, 0).record("b", 0, 3, 0);
            due("empty bodies at " + place + " and 3", back, place == 5);
        }
        Forge one = withWitness().free(75, 0, 75, 0, 75, 0);
        one.record("a", 0, 3, 1, 75).record("b", 0, 5, 0);
        due("one byte in common", one, false);
    }

    /** "no two have a byte in common": touching is no common byte. */
    private static void noByteInCommon() {
        // Bodies begin at 3, 5, 7 and 9.
        int[] row = {75, 0, 75, 0, 75, 0, 75, 0};
        for (int packed = 0; packed <= 6; packed++) {
            for (int second = 3; second <= 9; second += 2) {
                Forge forge = withWitness().free(row);
                int[] content = Arrays.copyOfRange(row, 2, 2 + packed);
                forge.record("a", 0, 3, packed, content).record("b", 0, second, 0);
                due("3 to " + (5 + packed) + " and " + second, forge, second >= 5 + packed);
                Forge back = withWitness().free(row);
                back.record("b", 0, second, 0).record("a", 0, 3, packed, content);
                due(second + " and 3 to " + (5 + packed), back, second >= 5 + packed);
            }
        }
        Forge witness = withWitness().record("a", 0, 0, 0);
        due("a body at the witness's place", witness, false);
        Forge far = new Forge().text("w", "W").text("a", "").text("b", "").text("c", "");
        far.text("d", "").record("e", 0, 0, 0);
        due("the sixth body at the place of the first", far, false);
    }

    /** Bodies need not lie in the order of their records, nor close to each other. */
    private static void bodiesInAnyOrder() {
        Forge forge = new Forge().free(1, 75, 0, 'B', 2, 3, 75, 0, 'A', 75, 0, 'W', 4);
        forge.record("w", 0, 9, 1, 'W').record("a", 0, 6, 1, 'A').record("b", 0, 1, 1, 'B');
        House h = due("in another order", forge, true);
        h.dueContent(1, "A");
        h.dueContent(2, "B");
    }

    /** "no two names are the same" */
    private static void noNameTwice() {
        for (int first = 0; first < 6; first++) {
            for (int second = first + 1; second < 6; second++) {
                Forge forge = new Forge();
                for (int i = 0; i < 6; i++) {
                    forge.text(i == second ? "n" + first : "n" + i, "" + i);
                }
                House h = forge.into(new House(CHECK, "names " + first + " and " + second), 0);
                h.dueContent(0, CORRUPT);
                h.dueContent(second, CORRUPT);
            }
        }
        Forge near = withWitness().text("ww", "").text("www", "").text("wwww", "").text("W", "");
        due("names that begin alike", near, true);
    }

    /** "it must be SIZE bytes": also if the sum is that of as many bytes. */
    private static void contentOfSizeBytes() {
        for (int size = 0; size <= 5; size++) {
            Forge forge = withWitness().text("a", "abc");
            forge.of(1).size = size;
            forge.of(1).sum = House.sum(Arrays.copyOf(House.bytes("abc"), size));
            due("3 bytes, size " + size, forge, true).dueContent(1, size == 3 ? "abc" : CORRUPT);
            int[] packed = new Bits().block(true, 1).letters("abc").letter(256).bytes();
            Forge inflated = withWitness().entry("a", 8, packed, House.bytes("abc"));
            inflated.of(1).size = size;
            inflated.of(1).sum = House.sum(Arrays.copyOf(House.bytes("abc"), size));
            due("3 bytes inflated, size " + size, inflated, true)
                    .dueContent(1, size == 3 ? "abc" : CORRUPT);
        }
    }

    /** "and their sum the entry's", with all its bits */
    private static void contentWithItsSum() {
        for (int bit = 0; bit < 32; bit++) {
            Forge forge = withWitness().text("a", "abc");
            forge.of(1).sum ^= 1 << bit;
            due("bit " + bit + " of the sum", forge, true).dueContent(1, CORRUPT);
        }
        Forge none = withWitness().text("a", "");
        none.of(1).sum = 1;
        due("a sum of nothing", none, true).dueContent(1, CORRUPT);
    }

    /** A stored entry of 200 bytes is read; 201 bytes are never SIZE bytes. */
    private static void storedUpTo200() {
        for (int n = 199; n <= 202; n++) {
            int[] row = new int[n];
            for (int i = 0; i < n; i++) {
                row[i] = 255 - i;
            }
            Forge forge = new Forge().entry("a", 0, row, Arrays.copyOf(row, Math.min(n, 200)));
            House h = forge.into(new House(CHECK, n + " bytes stored"), 0);
            boolean fits = n <= 200;
            h.due("content(0, 0)", h.x.content(0, 0), fits ? 255 : -2);
            h.due("the last byte", h.x.content(0, n - 1), fits ? 256 - n : -2);
            h.due("behind it", h.x.content(0, n), fits ? -1 : -2);
        }
    }

    /** An archive of four bytes has no room for a record, whatever it says. */
    private static void smallestArchive() {
        House h = new House(CHECK, "four bytes");
        h.archive(0).loader(-1, 0);
        int[][] ends = {{80, 0, 0, 0}, {80, 1, 0, 0}, {80, 6, 0, 0}, {80, 7, 0, 0}, {80, 1, 4, 0},
            {80, 1, 255, 255}, {80, 0, 255, 255}, {80, 255, 0, 0}, {0, 0, 0, 0}, {75, 0, 0, 0}};
        for (int[] end : ends) {
            for (int at = 0; at < 4; at++) {
                h.set(0, at, end[at]);
            }
            for (int place = 0; place < 8; place += 7) {
                h.due("content(" + place + ", 0)", h.x.content(place, 0), -2);
            }
            h.due("all(0, a, 0)", h.x.all(0, 'a', 0), -1);
            h.fails(0, "bA", 1, "bA");
        }
    }

    /** In an archive of 240 bytes a directory may seem to go on behind them, or lie there. */
    private static void largestArchive() {
        int[] free = new int[217];
        Arrays.fill(free, 4);
        for (int from = 180; from < 260; from += 20) {
            Forge forge = withWitness().free(free).free(4, 4, 4);
            House h = due("240 bytes", forge, true);
            for (int d = from; d < from + 20 && d < 256; d++) {
                h.set(0, 238, d);
                h.due("content(0, 0) with d " + d, h.x.content(0, 0), d == 223 ? 'W' : -2);
                h.due("spoil n", h.x.spoil(0, 237, 1 ^ 6), true);
                h.due("content(0, 0) with d " + d + " and 6 told", h.x.content(0, 0), -2);
                h.due("spoil n back", h.x.spoil(0, 237, 1 ^ 6), true);
            }
            h.set(0, 239, 255);
            h.due("content(0, 0) with d far out", h.x.content(0, 0), -2);
        }
    }
}
