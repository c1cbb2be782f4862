import java.lang.reflect.Constructor;
import java.lang.reflect.Field;
import java.lang.reflect.Method;
import java.lang.reflect.Modifier;
import java.util.Arrays;
import java.util.TreeSet;

/** The public face, and promise 1: a new object. */
public final class FaceTest {
    private static final Check CHECK = new Check();

    private static final String[] FACE = {
        "boolean append(int, int)", "boolean close(int)", "boolean enter(int, int)",
        "boolean finish(int)", "boolean put(long, int)", "boolean spoil(int, int, int)",
        "int all(int, int, int)", "int content(int, int)", "int culprit()", "int fault()",
        "int load(int, int)", "int next()", "int open(int)", "int peek(int, int)",
        "int services(int, int)", "int type(int, int)"
    };

    public static void main(String[] args) throws ReflectiveOperationException {
        hasTheFaceOnly();
        tellsWhatItThrows();
        isEmptyWhenNew();
        sharesNothingWithOthers();
        CHECK.end();
    }

    private static void hasTheFaceOnly() {
        TreeSet<String> seen = new TreeSet<>();
        TreeSet<String> publicNames = new TreeSet<>();
        for (Method m : ClassHouse.class.getDeclaredMethods()) {
            if (Modifier.isPublic(m.getModifiers())) {
                publicNames.add(m.getName());
                String types = Arrays.toString(m.getParameterTypes());
                String inside = types.substring(1, types.length() - 1);
                seen.add(m.getReturnType() + " " + m.getName() + "(" + inside + ")");
            }
        }
        CHECK.due("the public methods", seen.toString(),
                new TreeSet<>(Arrays.asList(FACE)).toString());
        for (Method m : ClassHouse.class.getDeclaredMethods()) {
            int modifiers = m.getModifiers();
            if (!m.isSynthetic() && !Modifier.isPublic(modifiers)) {
                CHECK.due(m + " is private", Modifier.isPrivate(modifiers), true);
                CHECK.due(m + " has a name of its own", publicNames.contains(m.getName()), false);
            }
        }
        for (Field f : ClassHouse.class.getDeclaredFields()) {
            boolean isPrivate = Modifier.isPrivate(f.getModifiers());
            CHECK.due(f + " is private", isPrivate, !f.getName().equals("NONE"));
        }
        Constructor<?>[] all = ClassHouse.class.getDeclaredConstructors();
        CHECK.due("how many constructors", all.length, 1);
        CHECK.due("its parameters", all[0].getParameterCount(), 0);
        CHECK.due("the class is final", Modifier.isFinal(ClassHouse.class.getModifiers()), true);
        CHECK.due("NONE", ClassHouse.NONE, -1);
    }

    /** The throws clauses of load(), services() and next(), and what else the face says. */
    private static void tellsWhatItThrows() throws ReflectiveOperationException {
        String many = "[class java.lang.IndexOutOfBoundsException, "
                + "class java.util.NoSuchElementException, "
                + "class java.lang.UnsupportedOperationException, "
                + "class java.lang.IllegalArgumentException, "
                + "class java.lang.IllegalStateException]";
        for (Method m : ClassHouse.class.getDeclaredMethods()) {
            if (Modifier.isPublic(m.getModifiers())) {
                String want = m.getName().matches("load|services") ? many
                        : m.getName().equals("next") ? "[class java.lang.IllegalStateException]"
                        : "[]";
                CHECK.due(m.getName() + " throws", Arrays.toString(m.getExceptionTypes()), want);
                CHECK.due(m + " is of an object", Modifier.isStatic(m.getModifiers()), false);
            }
        }
        CHECK.due("NONE", ClassHouse.class.getDeclaredField("NONE").toString(),
                "public static final int ClassHouse.NONE");
        CHECK.due("the constructor", ClassHouse.class.getDeclaredConstructor().toString(),
                "public ClassHouse()");
    }

    private static void isEmptyWhenNew() {
        House h = new House(CHECK, "new");
        for (int slot = -1; slot <= 4; slot++) {
            h.due("peek(" + slot + ", 0)", h.x.peek(slot, 0), -1);
            h.due("spoil(" + slot + ", 0, 1)", h.x.spoil(slot, 0, 1), false);
        }
        for (int place = -1; place <= 32; place++) {
            h.due("content(" + place + ", 0)", h.x.content(place, 0), -2);
        }
        h.dueFault(0, -1);
        h.due("load(0, 0) throws", h.thrownByLoad(0, 0), House.OUT);
        h.due("services(0, 0) throws", h.thrownByServices(0, 0), House.OUT);
        h.due("append(0, 0)", h.x.append(0, 0), false);
        h.due("close(0)", h.x.close(0), false);
        h.due("all(0, 77, 0)", h.x.all(0, 77, 0), -1);
        for (int what = 0; what < 8; what++) {
            h.due("type(0, " + what + ")", h.x.type(0, what), -1);
        }
        h.dueNext(-1);
        h.archive(2);
        h.due("length of an empty archive", h.length(2), 4);
        h.due("the mark of its end", h.x.peek(2, 0), 80);
        h.due("its entries", h.x.peek(2, 1), 0);
    }

    private static void sharesNothingWithOthers() {
        House one = new House(CHECK, "one");
        one.text("ab", "x").archive(0).loader(-1, 0);
        one.draft(1, 2, 3);
        House other = new House(CHECK, "other");
        other.due("peek(0, 0)", other.x.peek(0, 0), -1);
        other.due("open(-1)", other.x.open(-1), 0);
        other.due("enter", other.x.enter('q', 0), true);
        other.archive(0);
        other.dueContent(0, "");
    }
}
