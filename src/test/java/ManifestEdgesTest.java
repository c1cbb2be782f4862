/** The boundary cases of readable archives and manifests, and what a manifest says. */
public final class ManifestEdgesTest {
    private static final Check CHECK = new Check();

    public static void main(String[] args) {
        noEntryM();
        corruptM();
        otherEntriesMayBeCorrupt();
        noLines();
        linesOfOneToEightBytes();
        linesThatGoOnOfOneToEightBytes();
        bytes32To126();
        aByte10Behind();
        blankAtTheBeginning();
        withoutThatBlankOnly();
        capitals();
        colons();
        noCapitalTwice();
        digits0To3();
        lettersAToD();
        yAlone();
        otherCapitalsArePassed();
        upTo200Bytes();
        CHECK.end();
    }

    /** The archive has an entry w with the content W: it can be read if the archive is readable. */
    private static House due(String text, boolean readable) {
        House h = new House(CHECK, "<" + text.replace("\n", "|") + ">");
        h.text("w", "W").text("M", text).archive(0).loader(-1, 0);
        h.dueContent(0, readable ? "W" : "-2");
        h.due("all(0, w, 0)", h.x.all(0, 'w', 0), readable ? 0 : -1);
        h.due("all(0, M, 0)", h.x.all(0, 'M', 0), readable ? 1 : -1);
        return h;
    }

    /** "A sound archive is READABLE if it has no entry M": names close to M are others. */
    private static void noEntryM() {
        String[] names = {"L", "N", "m", "MM", "3M", "2M", "M3", "MMMM"};
        for (String name : names) {
            House h = new House(CHECK, "the entry " + name);
            h.text("w", "W").text(name, "no manifest").archive(0);
            h.dueContent(0, "W");
            h.dueContent(1, "no manifest");
        }
        House alone = new House(CHECK, "without entries");
        alone.archive(0).text("w", "W").text("M", "P:0\n").archive(1).loader(-1, 0, 1);
        alone.due("all(0, w, 0)", alone.x.all(0, 'w', 0), 8);
    }

    /** "or that is not corrupt": by its size, its sum, or since it can't be inflated. */
    private static void corruptM() {
        for (int kind = 0; kind < 4; kind++) {
            Forge forge = new Forge().text("w", "W").text("M", "A:x\n");
            forge.of(1).size += kind == 1 ? 1 : 0;
            forge.of(1).sum += kind == 2 ? 1 : 0;
            forge.of(1).packed -= kind == 3 ? 1 : 0;
            House h = forge.into(new House(CHECK, "corrupt M, kind " + kind), 0);
            h.dueContent(0, kind == 0 ? "W" : "-2");
            h.dueContent(1, kind == 0 ? "A:x\n" : "-2");
        }
        House h = new House(CHECK, "M that can't be inflated");
        h.text("w", "W").entry("M", 8, 7).archive(0);
        h.dueContent(0, "-2");
        House empty = new House(CHECK, "M inflated to nothing");
        empty.text("w", "W").entry("M", 8, 3, 0).archive(0);
        empty.dueContent(0, "W");
    }

    /** An entry that is corrupt makes its archive neither unsound nor unreadable. */
    private static void otherEntriesMayBeCorrupt() {
        Forge forge = new Forge().text("w", "W").text("a", "x").text("M", "A:\n");
        forge.of(1).sum++;
        House h = forge.into(new House(CHECK, "another one is corrupt"), 0).loader(-1, 0);
        h.dueContent(0, "W");
        h.dueContent(1, "-2");
        h.due("all(0, a, 0)", h.x.all(0, 'a', 0), 1);
    }

    /** A manifest without lines is one. */
    private static void noLines() {
        due("", true);
    }

    /** "lines of 1 to 8 bytes" */
    private static void linesOfOneToEightBytes() {
        for (int n = 0; n <= 12; n++) {
            String line = "X:abcdefghij".substring(0, n);
            due(line + "\n", n >= 2 && n <= 8);
            due("A:\n" + line + "\n", n >= 2 && n <= 8);
            String path = "P:0123012301".substring(0, n);
            due(path + "\n", n >= 2 && n <= 8);
        }
    }

    /** A line that goes on has 1 to 8 bytes too, with its blank. */
    private static void linesThatGoOnOfOneToEightBytes() {
        for (int n = 0; n <= 11; n++) {
            String line = " abcdefghij".substring(0, n);
            due("X:\n" + line + "\n", n >= 1 && n <= 8);
            String path = " 0123012301".substring(0, n);
            due("P:\n" + path + "\n", n >= 1 && n <= 8);
        }
        due("X:123456\n 1234567\n 1234567\n", true);
        due("X:123456\n 1234567\n 12345678\n", false);
        due("X:1234567\n 1234567\n", false);
    }

    /** "bytes 32 .. 126" */
    private static void bytes32To126() {
        int[] bytes = {0, 9, 11, 13, 31, 32, 33, 125, 126, 127, 128, 255};
        for (int b : bytes) {
            boolean fits = b >= 32 && b <= 126;
            char c = (char) b;
            due("X:" + c + "\n", fits);
            due("X:12345" + c + "\n", fits);
            due("X:\n " + c + "\n", fits);
            due("X:\n 123456" + c + "\n", fits);
            due("X:\n" + c + "\n", b == 32);
        }
    }

    /** "each with a byte 10 behind it" */
    private static void aByte10Behind() {
        due("A:", false);
        due("A:\n", true);
        due("A:\nB:", false);
        due("A:\nB:\n", true);
        due("A:\n ", false);
        due("A:\n \n", true);
        due("\n", false);
        due("\n\n", false);
        due("A:\n\n", false);
        due("\nA:\n", false);
        due("A:\n\nB:\n", false);
        due("A:\r\n", false);
        due("A", false);
        due("x", false);
    }

    /** "one that begins with a blank goes on with the one before": the first has none before. */
    private static void blankAtTheBeginning() {
        due(" \n", false);
        due(" A:\n", false);
        due(" 0\nP:\n", false);
        due("A:\n B:\n", true);
        House on = due("P:1\n 2\n", true);
        on.text("a", "1").archive(1).text("a", "2").archive(2);
        on.due("all(0, a, 0)", on.x.all(0, 'a', 0), 8);
        on.due("all(0, a, 1)", on.x.all(0, 'a', 1), 16);
        House other = due("P:1\nQ:\n 2\n", true);
        other.text("a", "1").archive(1).text("a", "2").archive(2);
        other.due("all(0, a, 0)", other.x.all(0, 'a', 0), 8);
        other.due("all(0, a, 1), which Q goes on with", other.x.all(0, 'a', 1), -1);
    }

    /** "(without that blank)": one blank alone; the next ones are bytes as others. */
    private static void withoutThatBlankOnly() {
        due("P:\n 0\n", true);
        due("P:\n  0\n", false);
        due("P:\n 0 \n", false);
        due("Z:\n a\n", true);
        due("Z:\n  a\n", false);
        due("V:\n Y\n", true);
        due("V:\n  Y\n", false);
        due("V:Y\n \n", true);
        due("V:Y\n  \n", false);
        due("V:\n \n Y\n", true);
        due("X:\n  x\n", true);
    }

    /** "all others begin with a capital": A to Z. */
    private static void capitals() {
        for (int b = 0; b < 256; b++) {
            boolean capital = b >= 'A' && b <= 'Z';
            if (b != 'P' && b != 'Z' && b != 'V' && b != 10) {
                due((char) b + ":x\n", capital);
            }
        }
        due("Z:a\n", true);
        due("X:\nx:\n", false);
        due("X:\n9:\n", false);
    }

    /** "and a colon" */
    private static void colons() {
        char[] others = {'9', ';', ' ', 'A', '.', 0, (char) 186};
        for (char c : others) {
            due("A" + c + "\n", false);
            due("A" + c + ":\n", false);
        }
        due("A::\n", true);
        due("A\n", false);
        due("A\n :\n", false);
        due("AB:\n", false);
        due(":\n", false);
        due(":A\n", false);
    }

    /** "no two with the same capital": all 26 may be there once. */
    private static void noCapitalTwice() {
        StringBuilder all = new StringBuilder();
        for (char c = 'A'; c <= 'Z'; c++) {
            all.append(c).append(c == 'V' ? ":Y\n" : ":\n");
        }
        due(all.toString(), true);
        char[] some = {'A', 'B', 'M', 'P', 'V', 'Y', 'Z'};
        for (char c : some) {
            String line = c + (c == 'V' ? ":Y\n" : ":\n");
            due(line + line, false);
            due(line + "Q:\n" + line, false);
            due(line + " \n" + line, false);
            due(all + line, false);
        }
        due("A:B:\nB:A:\n", true);
    }

    /** "P: has digits 0 .. 3 behind it" */
    private static void digits0To3() {
        char[] others = {'/', '4', '9', 'a', ' ', ':', 'P', 31, (char) 176};
        for (char c : others) {
            due("P:" + c + "\n", false);
            due("P:0" + c + "\n", false);
            due("P:" + c + "0\n", false);
            due("P:0\n 1" + c + "\n", false);
        }
        for (char c = '0'; c <= '3'; c++) {
            due("P:" + c + "\n", true);
            House h = new House(CHECK, "P:" + c);
            int slot = c - '0';
            int other = (slot + 1) % 4;
            h.text("M", "P:" + c + "\n").archive(other).text("a", "x").archive(slot);
            h.loader(-1, other);
            h.due("all(0, a, 0)", h.x.all(0, 'a', 0), 8 * slot);
            h.due("all(0, a, 1)", h.x.all(0, 'a', 1), -1);
        }
        due("P:012301\n 2301230\n 1230123\n", true);
    }

    /** "Z: letters a .. d" */
    private static void lettersAToD() {
        char[] others = {'`', 'e', 'z', 'A', 'D', '0', ' ', (char) 225};
        for (char c : others) {
            due("Z:" + c + "\n", false);
            due("Z:a" + c + "\n", false);
            due("Z:" + c + "a\n", false);
            due("Z:a\n b" + c + "\n", false);
        }
        for (char c = 'a'; c <= 'd'; c++) {
            due("Z:" + c + "\n", true);
            for (char sealed = 'a'; sealed <= 'd'; sealed++) {
                dueSeal(c, sealed);
            }
        }
        due("Z:abcdab\n cdabcda\n", true);
    }

    /** A class of the package from each of two archives, of which the second has the Z. */
    private static void dueSeal(char pack, char sealed) {
        House h = new House(CHECK, "package " + pack + ", Z:" + sealed);
        h.simple("aA", "").simple(pack + "B", "aA").archive(0);
        h.simple(pack + "C", "aA").text("M", "Z:" + sealed + "\n").archive(1).loader(-1, 0, 1);
        h.loads(0, pack + "B", 1);
        if (pack == sealed) {
            h.fails(0, pack + "C", 10, pack + "C");
        } else {
            h.loads(0, pack + "C", 2);
        }
    }

    /** "V: Y alone" */
    private static void yAlone() {
        char[] others = {'X', 'Z', 'y', 'N', '1', ' ', (char) 217};
        for (char c : others) {
            due("V:" + c + "\n", false);
            due("V:Y" + c + "\n", false);
            due("V:" + c + "Y\n", false);
        }
        due("V:\n", false);
        due("V:YY\n", false);
        due("V:Y\n Y\n", false);
        due("A:\nV:\nB:\n", false);
        due("V:Y\nA:Y\n", true);
        House h = due("V:Y\n", true);
        h.text("M", "V:Y\n").text("a", "1").text("3a", "3").archive(1);
        h.due("append(0, 1)", h.x.append(0, 1), true);
        h.due("all(0, a, 0)", h.x.all(0, 'a', 0), 10);
    }

    /** "what is behind other capitals is passed" */
    private static void otherCapitalsArePassed() {
        for (char c = 'A'; c <= 'Z'; c++) {
            if (c != 'P' && c != 'Z' && c != 'V') {
                House h = new House(CHECK, c + " is passed");
                h.simple("aA", "").text("M", c + ":1Yb\n").text("3bA", "").archive(0);
                h.simple("bA", "aA").archive(1).loader(-1, 0);
                h.due("no V", h.x.all(0, House.name("bA"), 0), -1);
                h.due("no P", h.x.all(0, House.name("bA"), 1), -1);
                h.fails(0, "bA", 1, "bA");
            }
        }
        due("X: !~:P:\n", true);
        due("X:V:N\n P:9\n Z:z\n", true);
    }

    /** A manifest is a content, of 200 bytes at most. */
    private static void upTo200Bytes() {
        String[] lastLines = {"", " \n", " a\n"};
        for (String last : lastLines) {
            // Two lines of 9 bytes, 20 copies of the second, and the last one.
            int n = 22 * 9 + last.length();
            Bits packed = new Bits().block(true, 1).letters("X:abcdef\n abcdefg\n")
                    .letter(282).number(180 - 163, 5).distance(6).number(0, 2);
            House h = new House(CHECK, "a manifest of " + n);
            h.text("w", "W").entry("M", 8, packed.letters(last).letter(256).bytes()).archive(0);
            h.dueContent(0, n <= 200 ? "W" : "-2");
            h.due("its last byte", h.x.content(1, n - 1), n <= 200 ? 10 : -2);
            h.due("behind it", h.x.content(1, n), n <= 200 ? -1 : -2);
        }
    }
}
