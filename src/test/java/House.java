import java.nio.charset.StandardCharsets;
import java.util.zip.CRC32;

/** A ClassHouse with short ways to fill it and to ask it. */
final class House {
    static final int PUBLIC = 1;
    static final int FINAL = 2;
    static final int INTERFACE = 4;
    static final int STORED = 0;
    static final int DEFLATED = 8;

    final Counted x;
    private final Check check;
    private final String about;

    House(Check check, String about) {
        this.check = check;
        this.about = about;
        x = new Counted(check, about);
    }

    static int name(String text) {
        int v = 0;
        for (int i = 0; i < text.length(); i++) {
            v |= text.charAt(i) << 8 * i;
        }
        return v;
    }

    /** The number of a class called like "bA". */
    static int number(String name) {
        return 8 * (name.charAt(0) - 'a') + name.charAt(1) - 'A';
    }

    static int[] bytes(String text) {
        byte[] raw = text.getBytes(StandardCharsets.ISO_8859_1);
        int[] row = new int[raw.length];
        for (int i = 0; i < row.length; i++) {
            row[i] = raw[i] & 255;
        }
        return row;
    }

    static int sum(int[] row) {
        CRC32 sum = new CRC32();
        for (int b : row) {
            sum.update(b);
        }
        return (int) sum.getValue();
    }

    /** A class file; its super class may be "" for none. */
    static int[] file(int version, int flags, String self, String upper, String... faces) {
        StringBuilder text = new StringBuilder();
        text.append((char) 202).append((char) version).append((char) flags).append(self);
        text.append(upper.isEmpty() ? "\0\0" : upper).append((char) faces.length);
        for (String face : faces) {
            text.append(face);
        }
        return bytes(text.toString());
    }

    void due(String call, long got, long want) {
        check.due(about + ": " + call, got, want);
    }

    void due(String call, boolean got, boolean want) {
        check.due(about + ": " + call, got, want);
    }

    House draft(int... row) {
        due("put of " + row.length + " bytes", x.putAll(row), true);
        return this;
    }

    House entry(String name, int method, int... packed) {
        draft(packed);
        due("enter(" + name + ", " + method + ")", x.enter(name(name), method), true);
        return this;
    }

    House text(String name, String text) {
        return entry(name, STORED, bytes(text));
    }

    /** An entry with a public class of version 1, as it is most often needed. */
    House simple(String self, String upper, String... faces) {
        return entry(self, STORED, file(1, PUBLIC, self, upper, faces));
    }

    House archive(int slot) {
        due("finish(" + slot + ")", x.finish(slot), true);
        return this;
    }

    House loader(int parent, int... slots) {
        int k = x.open(parent);
        due("open(" + parent + ") gives a loader", k >= 0, true);
        for (int slot : slots) {
            due("append(" + k + ", " + slot + ")", x.append(k, slot), true);
        }
        return this;
    }

    /** Spoils one byte so that it becomes the value. */
    House set(int slot, int at, int value) {
        int b = x.peek(slot, at) ^ value;
        due("spoil(" + slot + ", " + at + ", " + b + ")", x.spoil(slot, at, b), true);
        due("peek(" + slot + ", " + at + ")", x.peek(slot, at), value);
        return this;
    }

    int length(int slot) {
        int n = 0;
        while (x.peek(slot, n) != ClassHouse.NONE) {
            n++;
        }
        return n;
    }

    /** The content of a place as text, or the number -2 if it has none. */
    String contentOf(int place) {
        StringBuilder text = new StringBuilder();
        int b = x.content(place, 0);
        if (b == -2) {
            return "-2";
        }
        while (b >= 0) {
            text.append((char) b);
            b = x.content(place, text.length());
        }
        return text.toString();
    }

    void dueContent(int place, String want) {
        check.due(about + ": the content of " + place, contentOf(place), want);
    }

    void dueFault(int fault, int culprit) {
        due("fault()", x.fault(), fault);
        due("culprit()", x.culprit(), culprit);
    }

    void loads(int loader, String name, int want) {
        due("load(" + loader + ", " + name + ") throws", thrownByLoad(loader, number(name)), 0);
        due("load(" + loader + ", " + name + ")", latest, want);
        dueFault(0, ClassHouse.NONE);
    }

    void fails(int loader, String name, int fault, String culprit) {
        int kind = thrownByLoad(loader, number(name));
        due("load(" + loader + ", " + name + ") throws", kind, kindOf(fault));
        dueFault(fault, number(culprit));
    }

    int latest = ClassHouse.NONE;

    static final int OUT = 1;
    static final int MISSING = 2;
    static final int UNSUPPORTED = 3;
    static final int ARGUMENT = 4;
    static final int STATE = 5;

    static int kindOf(int fault) {
        switch (fault) {
            case 1: case 2: return MISSING;
            case 4: return UNSUPPORTED;
            case 3: case 5: case 10: case 11: return ARGUMENT;
            default: return STATE;
        }
    }

    private static int kindOf(RuntimeException e) {
        Class<?> kind = e.getClass();
        return kind == IndexOutOfBoundsException.class ? OUT
                : kind == java.util.NoSuchElementException.class ? MISSING
                : kind == UnsupportedOperationException.class ? UNSUPPORTED
                : kind == IllegalArgumentException.class ? ARGUMENT
                : kind == IllegalStateException.class ? STATE : 6;
    }

    int thrownByLoad(int loader, int name) {
        try {
            latest = x.load(loader, name);
            return 0;
        } catch (RuntimeException e) {
            return kindOf(e);
        }
    }

    int thrownByServices(int loader, int name) {
        try {
            latest = x.services(loader, name);
            return 0;
        } catch (RuntimeException e) {
            return kindOf(e);
        }
    }

    int thrownByNext() {
        try {
            latest = x.next();
            return 0;
        } catch (RuntimeException e) {
            return kindOf(e);
        }
    }

    void serves(int loader, String name, int want) {
        int kind = thrownByServices(loader, number(name));
        due("services(" + loader + ", " + name + ") throws", kind, 0);
        due("services(" + loader + ", " + name + ")", latest, want);
        dueFault(0, ClassHouse.NONE);
    }

    void dueNext(int want) {
        due("next() throws", thrownByNext(), 0);
        due("next()", latest, want);
        dueFault(0, ClassHouse.NONE);
    }

    void nextFails(int fault, int culprit) {
        due("next() throws", thrownByNext(), STATE);
        dueFault(fault, culprit);
    }
}
