import java.util.Arrays;
import java.util.NoSuchElementException;

public final class ClassHouse {
    public static final int NONE = -1;

    private static final int SLOTS = 4;
    private static final int MOST_LOADERS = 4;
    private static final int MOST_APPENDED = 4;
    private static final int MOST_BYTES = 240;
    private static final int MOST_ENTRIES = 6;
    private static final int PLACES_OF_AN_ARCHIVE = 8;
    private static final int MOST_PLACES = MOST_LOADERS * SLOTS;

    private static final int BODY_MARK = 75;
    private static final int END_MARK = 80;
    private static final int BODY_HEAD = 2;
    private static final int RECORD_WITHOUT_NAME = 12;
    private static final int END_BYTES = 4;
    private static final int STORED = 0;
    private static final int DEFLATED = 8;
    private static final int LINE_END = 10;

    private static final int PACKAGES = 4;
    private static final int LETTERS = 8;
    private static final int NAMES = PACKAGES * LETTERS;
    private static final int ROOT = 0;
    private static final int ROOT_PACKAGE = 0;
    private static final int PUBLIC = 1;
    private static final int FINAL = 2;
    private static final int INTERFACE = 4;

    // The columns of a class in the table, in the order of type().
    private static final int COLUMNS = 8;
    private static final int NAME = 0;
    private static final int LOADER = 1;
    private static final int ORIGIN = 2;
    private static final int SUPER = 3;
    private static final int FLAGS = 6;
    private static final int VERSION = 7;
    private static final int PARTS = 3;

    private static final int NOT_FOUND = 1;
    private static final int CORRUPT = 2;
    private static final int NO_CLASS_FILE = 3;
    private static final int WRONG_VERSION = 4;
    private static final int WRONG_NAME = 5;
    private static final int CIRCLE = 6;
    private static final int PART_NOT_FOUND = 7;
    private static final int WRONG_KIND = 8;
    private static final int NO_ACCESS = 9;
    private static final int SEALED = 10;
    private static final int FORBIDDEN = 11;
    private static final int BAD_LINE = 13;
    private static final int NOT_LOADED = 14;
    private static final int NO_PROVIDER = 15;

    // At most one loader is about to define a name, and parents are at most three hops away.
    private static final int DEEPEST = NAMES + 2 * MOST_LOADERS;

    private final Unpacker unpacker = new Unpacker();
    private final Maker maker = new Maker();
    private final Archive[] archives = new Archive[SLOTS];
    private final Loader[] loaders = new Loader[MOST_LOADERS];
    private int loaderCount = 0;
    private final ClassFile[] files = new ClassFile[DEEPEST + 1];
    private final int[] types = new int[MOST_LOADERS * NAMES * COLUMNS];
    private int typeCount = 0;
    private final int[] reached = new int[MOST_LOADERS * NAMES];
    private final int[] path = new int[SLOTS];
    private int pathLength = 0;
    private final int[] foundPlaces = new int[MOST_PLACES];
    private final Iteration iteration = new Iteration();
    private int latestFault = 0;
    private int latestCulprit = NONE;

    public ClassHouse() {
        for (int i = 0; i < SLOTS; i++) {
            archives[i] = new Archive();
        }
        for (int i = 0; i < MOST_LOADERS; i++) {
            loaders[i] = new Loader();
        }
        for (int i = 0; i <= DEEPEST; i++) {
            files[i] = new ClassFile();
        }
    }

    public boolean put(long v, int n) {
        return maker.draftNumber(v, n);
    }

    public boolean enter(int name, int method) {
        int length = nameLength(name);
        if (length == 0 || (method != STORED && method != DEFLATED) || !maker.hasRoomFor(length)) {
            return false;
        }
        boolean whole = unpacker.unpack(method, maker.draft, 0, maker.drafted);
        maker.addBody(method);
        maker.addRecordHead(name, length, method);
        maker.addRecordEnd(whole ? unpacker.sum() : 0, whole ? unpacker.length : 0);
        return true;
    }

    public boolean finish(int slot) {
        if (!isSlot(slot) || archives[slot].length > 0) {
            return false;
        }
        maker.writeTo(archives[slot]);
        archives[slot].examine(unpacker);
        return true;
    }

    public boolean spoil(int slot, int at, int b) {
        if (!isByte(slot, at) || b < 0 || b > 255) {
            return false;
        }
        archives[slot].bytes[at] ^= b;
        archives[slot].examine(unpacker);
        return true;
    }

    public int peek(int slot, int at) {
        return isByte(slot, at) ? archives[slot].bytes[at] : NONE;
    }

    public int open(int parent) {
        boolean fits = loaderCount == 0 ? parent == NONE : isLoader(parent);
        if (loaderCount == MOST_LOADERS || !fits) {
            return NONE;
        }
        loaders[loaderCount].parent = parent;
        loaderCount++;
        return loaderCount - 1;
    }

    public boolean append(int loader, int slot) {
        return isLoader(loader) && isSlot(slot) && loaders[loader].addArchive(slot);
    }

    public boolean close(int loader) {
        if (!isLoader(loader) || loaders[loader].closed) {
            return false;
        }
        loaders[loader].closed = true;
        return true;
    }

    public int load(int loader, int name) throws IndexOutOfBoundsException, NoSuchElementException,
            UnsupportedOperationException, IllegalArgumentException, IllegalStateException {
        if (!isLoader(loader) || !isClassName(name)) {
            throw new IndexOutOfBoundsException();
        }
        int found = loadClass(loader, name, 0);
        if (found == NONE) {
            raise(latestFault);
        }
        blame(0, NONE);
        return found;
    }

    public int fault() {
        return latestFault;
    }

    public int culprit() {
        return latestCulprit;
    }

    public int type(int k, int what) {
        if (k < 0 || k >= typeCount || what < 0 || what >= COLUMNS) {
            return NONE;
        }
        return types[COLUMNS * k + what];
    }

    public int all(int loader, int name, int k) {
        if (!isLoader(loader) || nameLength(name) == 0 || k < 0) {
            return NONE;
        }
        return k < findPlaces(loader, name, foundPlaces) ? foundPlaces[k] : NONE;
    }

    public int content(int place, int i) {
        if (!unpackPlace(place)) {
            return -2;
        }
        return i >= 0 && i < unpacker.length ? unpacker.out[i] : -1;
    }

    public int services(int loader, int name) throws IndexOutOfBoundsException,
            NoSuchElementException, UnsupportedOperationException, IllegalArgumentException,
            IllegalStateException {
        if (!isLoader(loader) || !isClassName(name)) {
            throw new IndexOutOfBoundsException();
        }
        int found = loadClass(loader, name, 0);
        if (found == NONE) {
            raise(latestFault);
        }
        blame(0, NONE);
        iteration.begin(loader, found);
        iteration.count = findPlaces(loader, 'S' | entryName(name) << 8, iteration.places);
        return iteration.count;
    }

    public int next() throws IllegalStateException {
        blame(0, NONE);
        int name = nextName();
        if (name == Iteration.BROKEN) {
            blame(BAD_LINE, NONE);
            throw new IllegalStateException();
        }
        if (name == NONE) {
            return NONE;
        }
        iteration.told[name] = true;
        int found = loadClass(iteration.loader, name, 0);
        if (found == NONE || !isProvider(found)) {
            blame(found == NONE ? NOT_LOADED : NO_PROVIDER, name);
            throw new IllegalStateException();
        }
        blame(0, NONE);
        return found;
    }

    private static boolean isSlot(int slot) {
        return slot >= 0 && slot < SLOTS;
    }

    private boolean isByte(int slot, int at) {
        return isSlot(slot) && at >= 0 && at < archives[slot].length;
    }

    private boolean isLoader(int loader) {
        return loader >= 0 && loader < loaderCount;
    }

    private static boolean isClassName(int name) {
        return name >= 0 && name < NAMES;
    }

    private static int packageOf(int name) {
        return name / LETTERS;
    }

    /** How many bytes an entry's name has, 0 if it is none. */
    private static int nameLength(int name) {
        int rest = name;
        int length = 0;
        while (rest != 0 && length < 4) {
            int b = rest & 255;
            if (b < 33 || b > 126) {
                return 0;
            }
            rest >>>= 8;
            length++;
        }
        return length;
    }

    private static int entryName(int className) {
        return 'a' + packageOf(className) | 'A' + className % LETTERS << 8;
    }

    private static int classNameOf(int first, int second) {
        if (first < 'a' || first >= 'a' + PACKAGES || second < 'A' || second >= 'A' + LETTERS) {
            return NONE;
        }
        return LETTERS * (first - 'a') + second - 'A';
    }

    /** Answers NONE, so that what failed can be told and answered in one go. */
    private int blame(int fault, int culprit) {
        latestFault = fault;
        latestCulprit = culprit;
        return NONE;
    }

    private static void raise(int fault) {
        switch (fault) {
            case NOT_FOUND:
            case CORRUPT:
                throw new NoSuchElementException();
            case WRONG_VERSION:
                throw new UnsupportedOperationException();
            case NO_CLASS_FILE:
            case WRONG_NAME:
            case SEALED:
            case FORBIDDEN:
                throw new IllegalArgumentException();
            default:
                throw new IllegalStateException();
        }
    }

    private boolean unpackPlace(int place) {
        if (place < 0 || place >= SLOTS * PLACES_OF_AN_ARCHIVE) {
            return false;
        }
        Archive archive = archives[place / PLACES_OF_AN_ARCHIVE];
        return archive.readable && archive.unpack(place % PLACES_OF_AN_ARCHIVE, unpacker);
    }

    private void followPath(Loader loader) {
        pathLength = 0;
        if (loader.closed) {
            return;
        }
        for (int i = 0; i < loader.appendedCount; i++) {
            addToPath(loader.appended[i], 0);
        }
    }

    private void addToPath(int slot, int depth) {
        if (depth >= SLOTS || isOnPath(slot)) {
            return;
        }
        path[pathLength] = slot;
        pathLength++;
        Archive archive = archives[slot];
        if (!archive.readable) {
            return;
        }
        for (int i = 0; i < archive.manifest.pathLength; i++) {
            addToPath(archive.manifest.path[i], depth + 1);
        }
    }

    private boolean isOnPath(int slot) {
        for (int i = 0; i < pathLength; i++) {
            if (path[i] == slot) {
                return true;
            }
        }
        return false;
    }

    private int placeIn(int slot, int name) {
        int record = archives[slot].readable ? archives[slot].recordFor(name) : NONE;
        return record == NONE ? NONE : PLACES_OF_AN_ARCHIVE * slot + record;
    }

    private int findPlaces(int loader, int name, int[] places) {
        int count = 0;
        // A parent is made before its children, so the numbers go up from it.
        for (int i = 0; i <= loader; i++) {
            if (isOnTheWayUp(i, loader)) {
                count = addPlaces(loaders[i], name, places, count);
            }
        }
        return count;
    }

    private boolean isOnTheWayUp(int upper, int lower) {
        int at = lower;
        for (int i = 0; i < MOST_LOADERS && at > upper; i++) {
            at = loaders[at].parent;
        }
        return at == upper;
    }

    private int addPlaces(Loader loader, int name, int[] places, int before) {
        int count = before;
        followPath(loader);
        for (int i = 0; i < pathLength && count < MOST_PLACES; i++) {
            int place = placeIn(path[i], name);
            if (place != NONE) {
                places[count] = place;
                count++;
            }
        }
        return count;
    }

    private int firstPlace(Loader loader, int name) {
        followPath(loader);
        for (int i = 0; i < pathLength; i++) {
            int place = placeIn(path[i], name);
            if (place != NONE) {
                return place;
            }
        }
        return NONE;
    }

    private boolean wasMissing() {
        return latestFault == NOT_FOUND || latestFault == CORRUPT;
    }

    /** The class's number, or NONE with the fault and its culprit told. */
    private int loadClass(int k, int name, int depth) {
        Loader loader = loaders[k];
        if (loader.defined[name] != NONE) {
            return loader.defined[name];
        }
        if (loader.aboutTo[name] || depth > DEEPEST) {
            return blame(CIRCLE, name);
        }
        if (loader.parent != NONE) {
            int found = loadClass(loader.parent, name, depth + 1);
            if (found != NONE || !wasMissing()) {
                return found;
            }
        }
        return loadFromPath(k, name, depth);
    }

    private int loadFromPath(int k, int name, int depth) {
        Loader loader = loaders[k];
        int place = firstPlace(loader, entryName(name));
        if (place == NONE) {
            return blame(NOT_FOUND, name);
        }
        int slot = place / PLACES_OF_AN_ARCHIVE;
        if (!mayTake(loader, packageOf(name), slot)) {
            return blame(SEALED, name);
        }
        if (!archives[slot].unpack(place % PLACES_OF_AN_ARCHIVE, unpacker)) {
            return blame(CORRUPT, name);
        }
        if (packageOf(name) == ROOT_PACKAGE && k != 0) {
            return blame(FORBIDDEN, name);
        }
        ClassFile file = files[depth];
        int fault = file.read(unpacker.out, unpacker.length, name);
        if (fault != 0) {
            return blame(fault, name);
        }
        loader.aboutTo[name] = true;
        boolean whole = loadParts(k, file, depth + 1);
        loader.aboutTo[name] = false;
        return whole ? define(k, file, slot) : NONE;
    }

    private boolean mayTake(Loader loader, int pack, int slot) {
        int first = loader.packageOrigin[pack];
        if (first == NONE) {
            loader.packageOrigin[pack] = slot;
            return true;
        }
        return first == slot || !(seals(first, pack) || seals(slot, pack));
    }

    private boolean seals(int slot, int pack) {
        return archives[slot].readable && archives[slot].manifest.sealed[pack];
    }

    private boolean loadParts(int k, ClassFile file, int depth) {
        for (int i = 0; i < PARTS; i++) {
            file.parts[i] = NONE;
            if (file.partNames[i] == NONE) {
                continue;
            }
            int part = loadClass(k, file.partNames[i], depth);
            if (part == NONE) {
                if (wasMissing()) {
                    latestFault = PART_NOT_FOUND;
                }
                return false;
            }
            int fault = faultOfPart(k, file.name, i, COLUMNS * part);
            if (fault != 0) {
                blame(fault, file.name);
                return false;
            }
            file.parts[i] = part;
        }
        return true;
    }

    private int faultOfPart(int k, int name, int part, int row) {
        int flags = types[row + FLAGS];
        boolean fits = part == 0 ? (flags & (FINAL | INTERFACE)) == 0 : (flags & INTERFACE) != 0;
        if (!fits) {
            return WRONG_KIND;
        }
        boolean near = packageOf(types[row + NAME]) == packageOf(name) && types[row + LOADER] == k;
        return (flags & PUBLIC) != 0 || near ? 0 : NO_ACCESS;
    }

    private int define(int k, ClassFile file, int slot) {
        int row = COLUMNS * typeCount;
        types[row + NAME] = file.name;
        types[row + LOADER] = k;
        types[row + ORIGIN] = slot;
        for (int i = 0; i < PARTS; i++) {
            types[row + SUPER + i] = file.parts[i];
        }
        types[row + FLAGS] = file.flags;
        types[row + VERSION] = file.version;
        loaders[k].defined[file.name] = typeCount;
        typeCount++;
        return typeCount - 1;
    }

    /** The next name that the iteration's places tell, NONE at its end, or BROKEN. */
    private int nextName() {
        for (int i = iteration.at; i < iteration.count; i++) {
            int name = Iteration.BROKEN;
            if (unpackPlace(iteration.places[i])) {
                name = iteration.nextNameIn(unpacker.out, unpacker.length);
            }
            if (name == NONE || name == Iteration.BROKEN) {
                iteration.passPlace();
            }
            if (name != NONE) {
                return name;
            }
        }
        return NONE;
    }

    private boolean isProvider(int found) {
        return (types[COLUMNS * found + FLAGS] & INTERFACE) == 0
                && isBelow(found, iteration.type);
    }

    /** Parts have lower numbers than what they are parts of, so one way down reaches all. */
    private boolean isBelow(int lower, int upper) {
        Arrays.fill(reached, 0);
        reached[lower] = 1;
        for (int k = lower; k > upper; k--) {
            for (int i = 0; i < PARTS && reached[k] == 1; i++) {
                int part = types[COLUMNS * k + SUPER + i];
                if (part != NONE) {
                    reached[part] = 1;
                }
            }
        }
        return reached[upper] == 1;
    }

    /** What is drafted, and the archive that is made. */
    private static final class Maker {
        private static final int MOST_DRAFTED = 120;

        final int[] draft = new int[MOST_DRAFTED];
        int drafted = 0;
        private final int[] bodies = new int[MOST_BYTES];
        private int bodyBytes = 0;
        private final int[] records = new int[MOST_BYTES];
        private int recordBytes = 0;
        private int entries = 0;

        boolean draftNumber(long v, int n) {
            if (n < 1 || n > 8 || drafted + n > MOST_DRAFTED) {
                return false;
            }
            for (int i = 0; i < n; i++) {
                draft[drafted] = (int) (v >>> 8 * i) & 255;
                drafted++;
            }
            return true;
        }

        boolean hasRoomFor(int nameLength) {
            int more = BODY_HEAD + drafted + RECORD_WITHOUT_NAME + nameLength;
            return entries < MOST_ENTRIES
                    && bodyBytes + recordBytes + END_BYTES + more <= MOST_BYTES;
        }

        void addBody(int method) {
            bodies[bodyBytes] = BODY_MARK;
            bodies[bodyBytes + 1] = method;
            System.arraycopy(draft, 0, bodies, bodyBytes + BODY_HEAD, drafted);
            bodyBytes += BODY_HEAD + drafted;
        }

        void addRecordHead(int name, int nameLength, int method) {
            addNumber(nameLength, 1);
            addNumber(name, nameLength);
            addNumber(method, 1);
        }

        /** The body is there already, so its place is told from where the bodies end. */
        void addRecordEnd(int sum, int size) {
            addNumber(sum, 4);
            addNumber(size, 2);
            addNumber(drafted, 2);
            addNumber(bodyBytes - drafted - BODY_HEAD, 2);
            drafted = 0;
            entries++;
        }

        private void addNumber(int v, int n) {
            for (int i = 0; i < n; i++) {
                records[recordBytes] = v >>> 8 * i & 255;
                recordBytes++;
            }
        }

        void writeTo(Archive archive) {
            int end = bodyBytes + recordBytes;
            System.arraycopy(bodies, 0, archive.bytes, 0, bodyBytes);
            System.arraycopy(records, 0, archive.bytes, bodyBytes, recordBytes);
            archive.bytes[end] = END_MARK;
            archive.bytes[end + 1] = entries;
            archive.bytes[end + 2] = bodyBytes & 255;
            archive.bytes[end + 3] = bodyBytes >>> 8;
            archive.length = end + END_BYTES;
            bodyBytes = 0;
            recordBytes = 0;
            entries = 0;
        }
    }

    /** The bytes of an archive and what was found in them when they changed last. */
    private static final class Archive {
        private static final int MOST_SIZE = 200;
        private static final int MANIFEST_NAME = 'M';

        final int[] bytes = new int[MOST_BYTES];
        int length = 0;
        boolean readable = false;
        final Manifest manifest = new Manifest();
        private int entries = 0;
        private final int[] names = new int[MOST_ENTRIES];
        private final int[] methods = new int[MOST_ENTRIES];
        private final int[] sums = new int[MOST_ENTRIES];
        private final int[] sizes = new int[MOST_ENTRIES];
        private final int[] packedSizes = new int[MOST_ENTRIES];
        private final int[] places = new int[MOST_ENTRIES];

        void examine(Unpacker unpacker) {
            manifest.clear();
            readable = isSound();
            int record = readable ? recordNamed(MANIFEST_NAME) : NONE;
            if (record != NONE) {
                readable = unpack(record, unpacker)
                        && manifest.read(unpacker.out, unpacker.length);
            }
        }

        /** The content is in the unpacker then, unless the record is none or corrupt. */
        boolean unpack(int record, Unpacker unpacker) {
            if (record < 0 || record >= entries) {
                return false;
            }
            int from = places[record] + BODY_HEAD;
            return unpacker.unpack(methods[record], bytes, from, packedSizes[record])
                    && unpacker.length == sizes[record] && unpacker.sum() == sums[record];
        }

        /** A name of four bytes has no room for a digit before it. */
        int recordFor(int name) {
            int record = NONE;
            if (manifest.versioned && name >>> 24 == 0) {
                record = recordNamed(name << 8 | '3');
                if (record == NONE) {
                    record = recordNamed(name << 8 | '2');
                }
            }
            return record == NONE ? recordNamed(name) : record;
        }

        private int recordNamed(int name) {
            for (int i = 0; i < entries; i++) {
                if (names[i] == name) {
                    return i;
                }
            }
            return NONE;
        }

        private boolean isSound() {
            int end = length - END_BYTES;
            entries = 0;
            if (end < 0 || bytes[end] != END_MARK || bytes[end + 1] > MOST_ENTRIES) {
                return false;
            }
            int start = number(end + 2, 2);
            int at = start;
            for (int i = 0; i < bytes[end + 1]; i++) {
                at = readRecord(i, at, end);
                if (at == NONE || !isBody(i, start) || !isApart(i)) {
                    return false;
                }
            }
            entries = bytes[end + 1];
            return at == end;
        }

        /** Where the record ends, NONE if it is none. */
        private int readRecord(int i, int at, int end) {
            if (at >= end) {
                return NONE;
            }
            int length = bytes[at];
            int next = at + RECORD_WITHOUT_NAME + length;
            if (length < 1 || length > 4 || next > end) {
                return NONE;
            }
            int behind = at + 1 + length;
            names[i] = number(at + 1, length);
            methods[i] = bytes[behind];
            sums[i] = number(behind + 1, 4);
            sizes[i] = number(behind + 5, 2);
            packedSizes[i] = number(behind + 7, 2);
            places[i] = number(behind + 9, 2);
            boolean fits = nameLength(names[i]) == length && sizes[i] <= MOST_SIZE
                    && (methods[i] == STORED || methods[i] == DEFLATED);
            return fits ? next : NONE;
        }

        private boolean isBody(int i, int directory) {
            int at = places[i];
            return at + BODY_HEAD + packedSizes[i] <= directory
                    && bytes[at] == BODY_MARK && bytes[at + 1] == methods[i];
        }

        private boolean isApart(int i) {
            int from = places[i];
            int behind = from + BODY_HEAD + packedSizes[i];
            for (int k = 0; k < i; k++) {
                boolean before = behind <= places[k];
                boolean after = places[k] + BODY_HEAD + packedSizes[k] <= from;
                if (names[k] == names[i] || !(before || after)) {
                    return false;
                }
            }
            return true;
        }

        private int number(int at, int n) {
            int v = 0;
            for (int i = 0; i < n; i++) {
                v |= bytes[at + i] << 8 * i;
            }
            return v;
        }
    }

    /** What the entry M of an archive says. */
    private static final class Manifest {
        private static final int LONGEST_LINE = 8;

        boolean versioned = false;
        final int[] path = new int[SLOTS];
        int pathLength = 0;
        final boolean[] sealed = new boolean[PACKAGES];
        private int capital = NONE;
        private int seenCapitals = 0;
        private int versionBytes = 0;

        void clear() {
            versioned = false;
            pathLength = 0;
            capital = NONE;
            seenCapitals = 0;
            versionBytes = 0;
            for (int i = 0; i < PACKAGES; i++) {
                sealed[i] = false;
            }
        }

        boolean read(int[] text, int length) {
            int from = 0;
            for (int i = 0; i < length; i++) {
                if (text[i] == LINE_END) {
                    if (!readLine(text, from, i)) {
                        return false;
                    }
                    from = i + 1;
                }
            }
            versioned = versionBytes == 1;
            return from == length && (versioned || !hasSeen('V'));
        }

        private boolean hasSeen(int letter) {
            return (seenCapitals >> letter - 'A' & 1) == 1;
        }

        private boolean readLine(int[] text, int from, int behind) {
            if (behind == from || behind - from > LONGEST_LINE) {
                return false;
            }
            int at = from + 1;
            if (text[from] != ' ') {
                if (!beginsWithCapital(text, from, behind)) {
                    return false;
                }
                capital = text[from];
                seenCapitals |= 1 << capital - 'A';
                at = from + 2;
            }
            if (capital == NONE) {
                return false;
            }
            for (int i = at; i < behind; i++) {
                if (!readByte(text[i])) {
                    return false;
                }
            }
            return true;
        }

        private boolean beginsWithCapital(int[] text, int from, int behind) {
            return behind - from >= 2 && text[from] >= 'A' && text[from] <= 'Z'
                    && text[from + 1] == ':' && !hasSeen(text[from]);
        }

        private boolean readByte(int b) {
            switch (capital) {
                case 'P':
                    return b >= '0' && b < '0' + SLOTS && addToPath(b - '0');
                case 'Z':
                    return b >= 'a' && b < 'a' + PACKAGES && seal(b - 'a');
                case 'V':
                    versionBytes++;
                    return b == 'Y' && versionBytes == 1;
                default:
                    return b >= 32 && b <= 126;
            }
        }

        /** Only where an archive comes first matters, so each is kept once. */
        private boolean addToPath(int slot) {
            for (int i = 0; i < pathLength; i++) {
                if (path[i] == slot) {
                    return true;
                }
            }
            path[pathLength] = slot;
            pathLength++;
            return true;
        }

        private boolean seal(int pack) {
            sealed[pack] = true;
            return true;
        }
    }

    private static final class Loader {
        int parent = NONE;
        boolean closed = false;
        final int[] appended = new int[MOST_APPENDED];
        int appendedCount = 0;
        final int[] defined = new int[NAMES];
        final boolean[] aboutTo = new boolean[NAMES];
        final int[] packageOrigin = new int[PACKAGES];

        Loader() {
            Arrays.fill(defined, NONE);
            Arrays.fill(packageOrigin, NONE);
        }

        boolean addArchive(int slot) {
            if (closed || appendedCount == MOST_APPENDED) {
                return false;
            }
            appended[appendedCount] = slot;
            appendedCount++;
            return true;
        }
    }

    /** A class file as it was read, and what was loaded for it: its super class is part 0. */
    private static final class ClassFile {
        private static final int MARK = 202;
        private static final int HEAD = 8;
        private static final int LATEST_VERSION = 3;
        private static final int ALL_FLAGS = PUBLIC | FINAL | INTERFACE;

        int name = NONE;
        int version = 0;
        int flags = 0;
        final int[] partNames = new int[PARTS];
        final int[] parts = new int[PARTS];

        /** The fault, 0 if there is none. */
        int read(int[] bytes, int length, int wanted) {
            if (length < 3 || bytes[0] != MARK) {
                return NO_CLASS_FILE;
            }
            version = bytes[1];
            flags = bytes[2];
            if (version < 1 || version > LATEST_VERSION) {
                return WRONG_VERSION;
            }
            if (!readNames(bytes, length) || !fitsFlags() || !fitsSuper()) {
                return NO_CLASS_FILE;
            }
            return name == wanted ? 0 : WRONG_NAME;
        }

        private boolean readNames(int[] bytes, int length) {
            if (length < HEAD || bytes[7] >= PARTS || length != HEAD + 2 * bytes[7]) {
                return false;
            }
            name = classNameOf(bytes[3], bytes[4]);
            partNames[0] = classNameOf(bytes[5], bytes[6]);
            boolean fits = name != NONE && (partNames[0] != NONE || bytes[5] + bytes[6] == 0);
            for (int i = 1; i < PARTS; i++) {
                partNames[i] = NONE;
                if (i <= bytes[7]) {
                    partNames[i] = classNameOf(bytes[6 + 2 * i], bytes[7 + 2 * i]);
                    fits = fits && partNames[i] != NONE;
                }
            }
            return fits;
        }

        private boolean fitsFlags() {
            int both = FINAL | INTERFACE;
            return flags <= ALL_FLAGS && (flags & both) != both;
        }

        private boolean fitsSuper() {
            if (name == ROOT || partNames[0] == NONE) {
                return name == ROOT && partNames[0] == NONE;
            }
            return (flags & INTERFACE) == 0 || partNames[0] == ROOT;
        }
    }

    /** Where the services are looked for, and how far that has come. */
    private static final class Iteration {
        static final int BROKEN = -2;

        int loader = NONE;
        int type = NONE;
        final int[] places = new int[MOST_PLACES];
        int count = 0;
        int at = 0;
        final boolean[] told = new boolean[NAMES];
        private int position = 0;

        void begin(int loader, int type) {
            this.loader = loader;
            this.type = type;
            at = 0;
            position = 0;
            for (int i = 0; i < NAMES; i++) {
                told[i] = false;
            }
        }

        void passPlace() {
            at++;
            position = 0;
        }

        /** The next name not told yet, NONE at the end of the text, or BROKEN. */
        int nextNameIn(int[] text, int length) {
            while (position < length) {
                int from = position;
                int behind = from;
                while (behind < length && text[behind] != LINE_END) {
                    behind++;
                }
                position = Math.min(behind + 1, length);
                int name = nameOnLine(text, from, behind);
                if (name == BROKEN || (name != NONE && !told[name])) {
                    return name;
                }
            }
            return NONE;
        }

        private static int nameOnLine(int[] text, int from, int behind) {
            int first = from;
            while (first < behind && text[first] == ' ') {
                first++;
            }
            int last = first;
            while (last < behind && text[last] != '#') {
                last++;
            }
            while (last > first && text[last - 1] == ' ') {
                last--;
            }
            if (last == first) {
                return NONE;
            }
            int name = last - first == 2 ? classNameOf(text[first], text[first + 1]) : NONE;
            return name == NONE ? BROKEN : name;
        }
    }

    /** Signs with bits: how many have each number of bits, and all in the order of their codes. */
    private static final class Code {
        private static final int LONGEST = 15;
        private static final int FULL = 1 << LONGEST;

        final int[] counts = new int[LONGEST + 1];
        final int[] signs;
        private final int[] nexts = new int[LONGEST + 2];
        private int filled = 0;

        Code(int most) {
            signs = new int[most];
        }

        void build(int[] bits, int from, int n) {
            for (int b = 0; b <= LONGEST; b++) {
                counts[b] = 0;
            }
            for (int i = 0; i < n; i++) {
                counts[bits[from + i]]++;
            }
            filled = 0;
            nexts[1] = 0;
            for (int b = 1; b <= LONGEST; b++) {
                filled += counts[b] << LONGEST - b;
                nexts[b + 1] = nexts[b] + counts[b];
            }
            for (int i = 0; i < n; i++) {
                int b = bits[from + i];
                if (b > 0) {
                    signs[nexts[b]] = i;
                    nexts[b]++;
                }
            }
        }

        boolean isFull() {
            return filled == FULL;
        }

        boolean isNoneOrOneOfOneBit() {
            return filled == 0 || (filled == FULL / 2 && counts[1] == 1);
        }
    }

    /** Unpacks packed bytes into a row that is used again each time. */
    private static final class Unpacker {
        private static final int MOST = 200;
        // No packed bytes have so many bits, and each step takes one at least.
        private static final int MOST_STEPS = 8 * MOST_BYTES + 1;
        private static final int BLOCK_END = 256;
        private static final int FIXED_LETTERS = 288;
        private static final int FIXED_DISTANCES = 32;
        private static final int MOST_LETTERS = 286;
        private static final int MOST_DISTANCES = 30;
        private static final int MARKS = 19;
        private static final int[] MARK_ORDER = {
            16, 17, 18, 0, 8, 7, 9, 6, 10, 5, 11, 4, 12, 3, 13, 2, 14, 1, 15
        };

        final int[] out = new int[MOST];
        int length = 0;
        private int[] packed = out;
        private int at = 0;
        private int end = 0;
        private boolean broken = false;
        private final int[] bits = new int[MOST_LETTERS + MOST_DISTANCES];
        private final Code marks = new Code(MARKS);
        private final Code letters = new Code(MOST_LETTERS);
        private final Code distances = new Code(MOST_DISTANCES);
        private final Code fixedLetters = new Code(FIXED_LETTERS);
        private final Code fixedDistances = new Code(FIXED_DISTANCES);

        Unpacker() {
            int[] fixedBits = new int[FIXED_LETTERS];
            fill(fixedBits, 0, FIXED_DISTANCES, 5);
            fixedDistances.build(fixedBits, 0, FIXED_DISTANCES);
            fill(fixedBits, 0, 144, 8);
            fill(fixedBits, 144, 256, 9);
            fill(fixedBits, 256, 280, 7);
            fill(fixedBits, 280, FIXED_LETTERS, 8);
            fixedLetters.build(fixedBits, 0, FIXED_LETTERS);
        }

        private static void fill(int[] row, int from, int behind, int value) {
            for (int i = from; i < behind; i++) {
                row[i] = value;
            }
        }

        /** False if the bytes can't be unpacked; at and end count bits. */
        boolean unpack(int method, int[] bytes, int from, int count) {
            packed = bytes;
            at = 8 * from;
            end = at + 8 * count;
            length = 0;
            broken = false;
            if (method == STORED) {
                copyBytes(count);
                return !broken;
            }
            for (int i = 0; i < MOST_STEPS; i++) {
                boolean last = take(1) == 1;
                switch (take(2)) {
                    case 0:
                        copyBlock();
                        break;
                    case 1:
                        readLetters(fixedLetters, fixedDistances);
                        break;
                    case 2:
                        readCodes();
                        readLetters(letters, distances);
                        break;
                    default:
                        broken = true;
                }
                if (broken || last) {
                    return !broken && end - at < 8;
                }
            }
            return false;
        }

        int sum() {
            int c = -1;
            for (int i = 0; i < length; i++) {
                c ^= out[i];
                for (int k = 0; k < 8; k++) {
                    c = (c & 1) == 1 ? c >>> 1 ^ 0xEDB88320 : c >>> 1;
                }
            }
            return ~c;
        }

        private int take(int count) {
            if (end - at < count) {
                broken = true;
                return 0;
            }
            int v = 0;
            for (int i = 0; i < count; i++) {
                v |= (packed[at >> 3] >> (at & 7) & 1) << i;
                at++;
            }
            return v;
        }

        private void copyBytes(int count) {
            if (count > MOST - length || 8 * count > end - at) {
                broken = true;
                return;
            }
            for (int i = 0; i < count; i++) {
                out[length] = packed[at >> 3];
                length++;
                at += 8;
            }
        }

        private void copyBlock() {
            at = (at + 7) / 8 * 8;
            int count = take(16);
            int turned = take(16);
            if (count + turned != 65535) {
                broken = true;
            }
            if (!broken) {
                copyBytes(count);
            }
        }

        private void readCodes() {
            int letterCount = take(5) + 257;
            int distanceCount = take(5) + 1;
            readMarks(take(4) + 4);
            if (letterCount > MOST_LETTERS || distanceCount > MOST_DISTANCES) {
                broken = true;
            }
            if (!broken) {
                readBits(letterCount + distanceCount);
            }
            if (!broken) {
                letters.build(bits, 0, letterCount);
                distances.build(bits, letterCount, distanceCount);
                broken = bits[BLOCK_END] == 0 || !letters.isFull()
                        || !(distances.isFull() || distances.isNoneOrOneOfOneBit());
            }
        }

        private void readMarks(int count) {
            fill(bits, 0, MARKS, 0);
            for (int i = 0; i < count; i++) {
                bits[MARK_ORDER[i]] = take(3);
            }
            marks.build(bits, 0, MARKS);
            if (!marks.isFull()) {
                broken = true;
            }
        }

        private void readBits(int count) {
            int done = 0;
            for (int i = 0; i < count && done < count && !broken; i++) {
                int mark = sign(marks);
                int value = 0;
                int times = 1;
                if (mark < 16) {
                    value = mark;
                } else if (mark == 16) {
                    value = done == 0 ? NONE : bits[done - 1];
                    times = 3 + take(2);
                } else {
                    times = mark == 17 ? 3 + take(3) : 11 + take(7);
                }
                if (value == NONE || times > count - done) {
                    broken = true;
                } else {
                    fill(bits, done, done + times, value);
                    done += times;
                }
            }
        }

        /** Takes its bits by itself, which keeps the calls below one another few. */
        private int sign(Code code) {
            int value = 0;
            int first = 0;
            int before = 0;
            for (int b = 1; b <= Code.LONGEST && at < end; b++) {
                value = value << 1 | packed[at >> 3] >> (at & 7) & 1;
                at++;
                int count = code.counts[b];
                if (value - first < count) {
                    return code.signs[before + value - first];
                }
                before += count;
                first = first + count << 1;
            }
            broken = true;
            return 0;
        }

        private void readLetters(Code letterCode, Code distanceCode) {
            for (int i = 0; i < MOST_STEPS && !broken; i++) {
                int letter = sign(letterCode);
                if (broken || letter == BLOCK_END) {
                    return;
                }
                if (letter < BLOCK_END) {
                    addByte(letter);
                } else {
                    int count = lengthOf(letter);
                    copyBack(count, distanceOf(sign(distanceCode)));
                }
            }
        }

        private void addByte(int b) {
            if (length == MOST) {
                broken = true;
                return;
            }
            out[length] = b;
            length++;
        }

        private int lengthOf(int letter) {
            if (letter <= 264) {
                return letter - 254;
            }
            if (letter >= 285) {
                broken = broken || letter > 285;
                return 258;
            }
            int more = (letter - 261) / 4;
            return 3 + (4 + (letter - 261) % 4 << more) + take(more);
        }

        private int distanceOf(int d) {
            if (d < 4) {
                return d + 1;
            }
            if (d >= 30) {
                broken = true;
                return 0;
            }
            int more = d / 2 - 1;
            return 1 + (2 + d % 2 << more) + take(more);
        }

        private void copyBack(int count, int distance) {
            if (broken || distance > length || count > MOST - length) {
                broken = true;
                return;
            }
            for (int i = 0; i < count; i++) {
                out[length] = out[length - distance];
                length++;
            }
        }
    }
}
