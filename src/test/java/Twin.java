import java.util.ArrayList;
import java.util.HashMap;
import java.util.HashSet;
import java.util.LinkedHashSet;
import java.util.List;
import java.util.Map;
import java.util.NoSuchElementException;
import java.util.Set;
import java.util.TreeMap;
import java.util.zip.CRC32;

/**
 * The document once more, built apart from ClassHouse and as plainly as can be: bytes are texts,
 * and all that is asked is read from them anew.
 */
final class Twin implements Face {
    private static final int NONE = -1;

    /** A fault on its way up. */
    private static final class Fault extends RuntimeException {
        final int number;
        final int culprit;

        Fault(int number, int culprit) {
            this.number = number;
            this.culprit = culprit;
        }
    }

    /** A record of a directory, with the packed bytes of its body. */
    static final class Entry {
        String name;
        int method;
        int sum;
        int size;
        String packed;
        int place;
        /** Where the record itself is. */
        int record;
    }

    private static final class Loader {
        int number;
        Loader parent;
        boolean closed;
        final List<Integer> appended = new ArrayList<>();
        final Map<Integer, Integer> defined = new HashMap<>();
        final Set<Integer> aboutTo = new HashSet<>();
        final Map<Integer, Integer> packages = new HashMap<>();
    }

    private static final class Iteration {
        Loader loader;
        int type;
        final List<Integer> places = new ArrayList<>();
        int position;
        final Set<Integer> told = new HashSet<>();
    }

    private String drafted = "";
    private final List<Entry> made = new ArrayList<>();
    private final String[] archives = new String[4];
    private final List<Loader> loaders = new ArrayList<>();
    private final List<int[]> types = new ArrayList<>();
    private Iteration iteration = null;
    private int fault = 0;
    private int culprit = NONE;

    // Bytes, names and sums.

    private static String number(long v, int n) {
        StringBuilder text = new StringBuilder();
        for (int i = 0; i < n; i++) {
            text.append((char) (v >>> 8 * i & 255));
        }
        return text.toString();
    }

    private static int numberAt(String bytes, int at, int n) {
        int v = 0;
        for (int i = n - 1; i >= 0; i--) {
            v = v * 256 + bytes.charAt(at + i);
        }
        return v;
    }

    static int sumOf(String bytes) {
        CRC32 sum = new CRC32();
        for (char b : bytes.toCharArray()) {
            sum.update(b);
        }
        return (int) sum.getValue();
    }

    /** The bytes of a name, or null if it is none. */
    private static String nameOf(int v) {
        String text = number(v, 4).replaceAll("\0+\\z", "");
        return text.matches("[!-~]{1,4}") ? text : null;
    }

    private static String classText(int n) {
        return "" + (char) ('a' + n / 8) + (char) ('A' + n % 8);
    }

    private static int classNumber(String text) {
        return text.matches("[a-d][A-H]") ? 8 * (text.charAt(0) - 'a') + text.charAt(1) - 'A'
                : NONE;
    }

    // Archives that are made.

    @Override
    public boolean put(long v, int n) {
        if (n < 1 || n > 8 || drafted.length() + n > 120) {
            return false;
        }
        drafted += number(v, n);
        return true;
    }

    @Override
    public boolean enter(int name, int method) {
        Entry entry = new Entry();
        entry.name = nameOf(name);
        entry.method = method;
        entry.packed = drafted;
        if (entry.name == null || (method != 0 && method != 8) || made.size() == 6) {
            return false;
        }
        String content = method == 0 ? drafted : PlainInflater.inflate(drafted);
        entry.sum = content == null ? 0 : sumOf(content);
        entry.size = content == null ? 0 : content.length();
        made.add(entry);
        if (archiveOf(made).length() > 240) {
            made.remove(entry);
            return false;
        }
        drafted = "";
        return true;
    }

    boolean hasDraft() {
        return !drafted.isEmpty();
    }

    private static String archiveOf(List<Entry> entries) {
        StringBuilder bodies = new StringBuilder();
        StringBuilder directory = new StringBuilder();
        for (Entry e : entries) {
            directory.append((char) e.name.length()).append(e.name).append((char) e.method)
                    .append(number(e.sum, 4)).append(number(e.size, 2))
                    .append(number(e.packed.length(), 2)).append(number(bodies.length(), 2));
            bodies.append((char) 75).append((char) e.method).append(e.packed);
        }
        return bodies.toString() + directory + (char) 80 + (char) entries.size()
                + number(bodies.length(), 2);
    }

    @Override
    public boolean finish(int slot) {
        if (slot < 0 || slot > 3 || archives[slot] != null) {
            return false;
        }
        archives[slot] = archiveOf(made);
        made.clear();
        return true;
    }

    @Override
    public boolean spoil(int slot, int at, int b) {
        if (peek(slot, at) == NONE || b < 0 || b > 255) {
            return false;
        }
        StringBuilder bytes = new StringBuilder(archives[slot]);
        bytes.setCharAt(at, (char) (bytes.charAt(at) ^ b));
        archives[slot] = bytes.toString();
        return true;
    }

    @Override
    public int peek(int slot, int at) {
        boolean there = slot >= 0 && slot <= 3 && archives[slot] != null && at >= 0
                && at < archives[slot].length();
        return there ? archives[slot].charAt(at) : NONE;
    }

    // Archives that are read.

    /** The records of an archive that is sound; null for another one. */
    List<Entry> recordsOf(int slot) {
        String bytes = archives[slot];
        if (bytes == null || bytes.length() < 4) {
            return null;
        }
        int end = bytes.length() - 4;
        int directory = numberAt(bytes, end + 2, 2);
        if (bytes.charAt(end) != 80 || bytes.charAt(end + 1) > 6 || directory > end) {
            return null;
        }
        List<Entry> records = new ArrayList<>();
        int at = directory;
        for (int i = 0; i < bytes.charAt(end + 1); i++) {
            Entry e = recordAt(bytes, at, end, directory);
            if (e == null) {
                return null;
            }
            records.add(e);
            at = e.record + 12 + e.name.length();
        }
        return at == end && areApart(records) ? records : null;
    }

    private static Entry recordAt(String bytes, int at, int end, int directory) {
        if (at >= end || at + 12 + bytes.charAt(at) > end) {
            return null;
        }
        int length = bytes.charAt(at);
        int rest = at + 1 + length;
        Entry e = new Entry();
        e.record = at;
        e.name = bytes.substring(at + 1, rest);
        e.method = bytes.charAt(rest);
        e.sum = numberAt(bytes, rest + 1, 4);
        e.size = numberAt(bytes, rest + 5, 2);
        e.place = numberAt(bytes, rest + 9, 2);
        int behind = e.place + 2 + numberAt(bytes, rest + 7, 2);
        if (!e.name.matches("[!-~]{1,4}") || (e.method != 0 && e.method != 8) || e.size > 200
                || behind > directory) {
            return null;
        }
        e.packed = bytes.substring(e.place + 2, behind);
        return bytes.startsWith("" + (char) 75 + (char) e.method, e.place) ? e : null;
    }

    private static boolean areApart(List<Entry> records) {
        Set<String> names = new HashSet<>();
        Set<Integer> used = new HashSet<>();
        for (Entry e : records) {
            boolean apart = names.add(e.name);
            for (int i = 0; i < 2 + e.packed.length(); i++) {
                apart &= used.add(e.place + i);
            }
            if (!apart) {
                return false;
            }
        }
        return true;
    }

    /** The content of an entry, or null if that is corrupt. */
    private static String contentOf(Entry e) {
        String content = e.method == 0 ? e.packed : PlainInflater.inflate(e.packed);
        boolean whole = content != null && content.length() == e.size && sumOf(content) == e.sum;
        return whole ? content : null;
    }

    private static int numberOf(String name, List<Entry> records) {
        for (int i = 0; i < records.size(); i++) {
            if (records.get(i).name.equals(name)) {
                return i;
            }
        }
        return NONE;
    }

    /** What is behind each capital of an archive that is readable; null for another one. */
    private Map<Character, String> manifestOf(int slot) {
        List<Entry> records = recordsOf(slot);
        if (records == null) {
            return null;
        }
        int number = numberOf("M", records);
        if (number == NONE) {
            return new TreeMap<>();
        }
        String content = contentOf(records.get(number));
        return content == null ? null : manifestIn(content);
    }

    private static Map<Character, String> manifestIn(String content) {
        Map<Character, String> manifest = new TreeMap<>();
        char capital = 0;
        String rest = content;
        while (!rest.isEmpty()) {
            int end = rest.indexOf('\n');
            String line = end < 0 ? "" : rest.substring(0, end);
            rest = rest.substring(end + 1);
            if (!line.matches("[ -~]{1,8}") || (line.startsWith(" ") && capital == 0)) {
                return null;
            }
            if (line.startsWith(" ")) {
                manifest.put(capital, manifest.get(capital) + line.substring(1));
            } else {
                capital = line.charAt(0);
                if (!line.matches("[A-Z]:.*") || manifest.containsKey(capital)) {
                    return null;
                }
                manifest.put(capital, line.substring(2));
            }
        }
        boolean fits = manifest.getOrDefault('P', "").matches("[0-3]*")
                && manifest.getOrDefault('Z', "").matches("[a-d]*")
                && manifest.getOrDefault('V', "Y").equals("Y");
        return fits ? manifest : null;
    }

    private boolean isReadable(int slot) {
        return manifestOf(slot) != null;
    }

    /** The place of what an archive has as that name. */
    private int placeIn(int slot, String name) {
        if (!isReadable(slot)) {
            return NONE;
        }
        List<Entry> records = recordsOf(slot);
        String[] tries = {"3" + name, "2" + name, name};
        for (int i = manifestOf(slot).containsKey('V') ? 0 : 2; i < 3; i++) {
            int number = numberOf(tries[i], records);
            if (number != NONE) {
                return 8 * slot + number;
            }
        }
        return NONE;
    }

    /** The content at a place, or null without one. */
    private String contentAt(int place) {
        if (place < 0 || place >= 32 || !isReadable(place / 8)) {
            return null;
        }
        List<Entry> records = recordsOf(place / 8);
        return place % 8 < records.size() ? contentOf(records.get(place % 8)) : null;
    }

    @Override
    public int content(int place, int i) {
        String content = contentAt(place);
        return content == null ? -2 : i >= 0 && i < content.length() ? content.charAt(i) : -1;
    }

    // Loaders and their paths.

    private Loader loader(int k) {
        return k >= 0 && k < loaders.size() ? loaders.get(k) : null;
    }

    @Override
    public int open(int parent) {
        boolean fits = loaders.isEmpty() ? parent == NONE : loader(parent) != null;
        if (loaders.size() == 4 || !fits) {
            return NONE;
        }
        Loader opened = new Loader();
        opened.number = loaders.size();
        opened.parent = loader(parent);
        loaders.add(opened);
        return opened.number;
    }

    @Override
    public boolean append(int loader, int slot) {
        Loader k = loader(loader);
        if (k == null || slot < 0 || slot > 3 || k.closed || k.appended.size() == 4) {
            return false;
        }
        return k.appended.add(slot);
    }

    @Override
    public boolean close(int loader) {
        Loader k = loader(loader);
        if (k == null || k.closed) {
            return false;
        }
        k.closed = true;
        return true;
    }

    int loaderCount() {
        return loaders.size();
    }

    private Set<Integer> pathOf(Loader k) {
        Set<Integer> path = new LinkedHashSet<>();
        for (int slot : k.closed ? List.<Integer>of() : k.appended) {
            follow(slot, path);
        }
        return path;
    }

    private void follow(int slot, Set<Integer> path) {
        if (path.add(slot) && isReadable(slot)) {
            for (char digit : manifestOf(slot).getOrDefault('P', "").toCharArray()) {
                follow(digit - '0', path);
            }
        }
    }

    private List<Integer> placesOn(Set<Integer> path, String name) {
        List<Integer> places = new ArrayList<>();
        for (int slot : path) {
            places.add(placeIn(slot, name));
        }
        places.removeIf(place -> place == NONE);
        return places;
    }

    private List<Integer> allPlaces(Loader k, String name) {
        List<Integer> places = new ArrayList<>();
        if (k.parent != null) {
            places.addAll(allPlaces(k.parent, name));
        }
        places.addAll(placesOn(pathOf(k), name));
        return places;
    }

    @Override
    public int all(int loader, int name, int k) {
        if (loader(loader) == null || nameOf(name) == null) {
            return NONE;
        }
        List<Integer> places = allPlaces(loader(loader), nameOf(name));
        return k >= 0 && k < places.size() ? places.get(k) : NONE;
    }

    // Loading.

    private int loads(Loader k, int n) {
        if (k.defined.containsKey(n)) {
            return k.defined.get(n);
        }
        if (k.aboutTo.contains(n)) {
            throw new Fault(6, n);
        }
        if (k.parent != null) {
            try {
                return loads(k.parent, n);
            } catch (Fault f) {
                if (f.number > 2) {
                    throw f;
                }
            }
        }
        return loadsFromPath(k, n);
    }

    private static void blameIf(boolean wrong, int fault, int n) {
        if (wrong) {
            throw new Fault(fault, n);
        }
    }

    private boolean seals(int slot, int n) {
        Map<Character, String> manifest = manifestOf(slot);
        return manifest != null && manifest.getOrDefault('Z', "").indexOf('a' + n / 8) >= 0;
    }

    private int loadsFromPath(Loader k, int n) {
        List<Integer> places = placesOn(pathOf(k), classText(n));
        blameIf(places.isEmpty(), 1, n);
        int slot = places.get(0) / 8;
        int first = k.packages.computeIfAbsent(n / 8, pack -> slot);
        blameIf(first != slot && (seals(first, n) || seals(slot, n)), 10, n);
        String content = contentAt(places.get(0));
        blameIf(content == null, 2, n);
        blameIf(n / 8 == 0 && k.number != 0, 11, n);
        checkFile(content, n);
        k.aboutTo.add(n);
        try {
            return define(k, n, slot, content);
        } finally {
            k.aboutTo.remove(n);
        }
    }

    private static void checkFile(String content, int n) {
        blameIf(content.length() < 3 || content.charAt(0) != 202, 3, n);
        int version = content.charAt(1);
        blameIf(version < 1 || version > 3, 4, n);
        blameIf(!content.matches("(?s)...[a-d][A-H](\0\0|[a-d][A-H])(\0|\1[a-d][A-H]|\2"
                + "([a-d][A-H]){2})"), 3, n);
        int flags = content.charAt(2);
        boolean root = content.startsWith("aA", 3);
        boolean single = content.startsWith("\0\0", 5);
        blameIf(flags > 7 || (flags & 6) == 6 || root != single, 3, n);
        blameIf((flags & 4) == 4 && !single && !content.startsWith("aA", 5), 3, n);
        blameIf(!content.startsWith(classText(n), 3), 5, n);
    }

    private int define(Loader k, int n, int slot, String content) {
        int[] type = {n, k.number, slot, NONE, NONE, NONE, content.charAt(2), content.charAt(1)};
        if (content.charAt(5) != 0) {
            type[3] = part(k, n, content.substring(5, 7), true);
        }
        for (int i = 0; i < content.charAt(7); i++) {
            type[4 + i] = part(k, n, content.substring(8 + 2 * i, 10 + 2 * i), false);
        }
        types.add(type);
        k.defined.put(n, types.size() - 1);
        return types.size() - 1;
    }

    private int part(Loader k, int n, String name, boolean isSuper) {
        int number;
        try {
            number = loads(k, classNumber(name));
        } catch (Fault f) {
            throw f.number <= 2 ? new Fault(7, f.culprit) : f;
        }
        int[] type = types.get(number);
        int flags = type[6];
        blameIf(isSuper && (flags & 2) != 0, 8, n);
        blameIf(isSuper == ((flags & 4) != 0), 8, n);
        blameIf((flags & 1) == 0 && (type[0] / 8 != n / 8 || type[1] != k.number), 9, n);
        return number;
    }

    private int loadOrThrow(int loader, int name) {
        if (loader(loader) == null || name < 0 || name > 31) {
            throw new IndexOutOfBoundsException();
        }
        try {
            int number = loads(loader(loader), name);
            fault = 0;
            culprit = NONE;
            return number;
        } catch (Fault f) {
            fault = f.number;
            culprit = f.culprit;
        }
        throw List.of(1, 2).contains(fault) ? new NoSuchElementException()
                : fault == 4 ? new UnsupportedOperationException()
                : List.of(3, 5, 10, 11).contains(fault) ? new IllegalArgumentException()
                : new IllegalStateException();
    }

    @Override
    public int load(int loader, int name) {
        return loadOrThrow(loader, name);
    }

    @Override
    public int fault() {
        return fault;
    }

    @Override
    public int culprit() {
        return culprit;
    }

    @Override
    public int type(int k, int what) {
        boolean there = k >= 0 && k < types.size() && what >= 0 && what < 8;
        return there ? types.get(k)[what] : NONE;
    }

    // Services.

    @Override
    public int services(int loader, int name) {
        int number = loadOrThrow(loader, name);
        iteration = new Iteration();
        iteration.loader = loader(loader);
        iteration.type = number;
        iteration.places.addAll(allPlaces(iteration.loader, "S" + classText(name)));
        return iteration.places.size();
    }

    @Override
    public int next() {
        fault = 0;
        culprit = NONE;
        try {
            String line = iteration == null ? null : nextLine();
            return line == null ? NONE : provider(line);
        } catch (Fault f) {
            fault = f.number;
            culprit = f.culprit;
            throw new IllegalStateException();
        }
    }

    private void passPlace() {
        iteration.places.remove(0);
        iteration.position = 0;
    }

    /** The next line that is not passed, or null at the end of all. */
    private String nextLine() {
        while (!iteration.places.isEmpty()) {
            String content = contentAt(iteration.places.get(0));
            if (content == null) {
                passPlace();
                throw new Fault(13, NONE);
            }
            String rest = content.substring(Math.min(iteration.position, content.length()));
            if (rest.isEmpty()) {
                passPlace();
                continue;
            }
            String line = rest.split("\n", 2)[0];
            iteration.position += Math.min(line.length() + 1, rest.length());
            line = line.replaceAll("(?s)#.*", "").replaceAll("^ +| +\\z", "");
            if (!line.isEmpty() && !iteration.told.contains(checkedClass(line))) {
                return line;
            }
        }
        return null;
    }

    private int checkedClass(String line) {
        int n = classNumber(line);
        if (n == NONE) {
            passPlace();
            throw new Fault(13, NONE);
        }
        return n;
    }

    private int provider(String line) {
        int n = classNumber(line);
        iteration.told.add(n);
        int number;
        try {
            number = loads(iteration.loader, n);
        } catch (Fault f) {
            throw new Fault(14, n);
        }
        blameIf((types.get(number)[6] & 4) != 0 || !isA(number, iteration.type), 15, n);
        return number;
    }

    private boolean isA(int lower, int upper) {
        if (lower == NONE || lower == upper) {
            return lower == upper;
        }
        int[] type = types.get(lower);
        return isA(type[3], upper) || isA(type[4], upper) || isA(type[5], upper);
    }
}
