import java.util.function.ToLongFunction;

/** The class and its twin, asked the same; what they answer must be the same. */
final class Both {
    /** As an answer: the call threw. */
    static final long THREW = Long.MIN_VALUE;

    final Counted house;
    final Twin twin = new Twin();
    private final Check check;
    private final String about;
    private final StringBuilder calls = new StringBuilder();
    private boolean differ = false;

    Both(Check check, String about) {
        this.check = check;
        this.about = about;
        house = new Counted(check, about);
    }

    boolean differ() {
        return differ;
    }

    private static String answerOf(Face face, ToLongFunction<Face> call) {
        try {
            return "" + call.applyAsLong(face);
        } catch (RuntimeException e) {
            return e.getClass().getSimpleName();
        }
    }

    private long ask(String text, ToLongFunction<Face> call) {
        calls.append(text).append("; ");
        String want = answerOf(twin, call);
        String got = answerOf(house, call);
        if (!got.equals(want) && !differ) {
            differ = true;
            System.out.println(about + ": " + calls);
        }
        check.due(about + ": " + text, got, want);
        return want.matches("-?[0-9]+") ? Long.parseLong(want) : THREW;
    }

    private boolean askWhether(String text, ToLongFunction<Face> call) {
        return ask(text, call) == 1;
    }

    boolean put(long v, int n) {
        return askWhether("put(" + v + ", " + n + ")", f -> f.put(v, n) ? 1 : 0);
    }

    boolean putAll(int... row) {
        boolean all = true;
        for (int from = 0; from < row.length; from += 8) {
            long v = 0;
            int n = Math.min(8, row.length - from);
            for (int i = 0; i < n; i++) {
                v |= (long) row[from + i] << 8 * i;
            }
            all &= put(v, n);
        }
        return all;
    }

    boolean enter(int name, int method) {
        return askWhether("enter(" + name + ", " + method + ")",
                f -> f.enter(name, method) ? 1 : 0);
    }

    boolean finish(int slot) {
        return askWhether("finish(" + slot + ")", f -> f.finish(slot) ? 1 : 0);
    }

    boolean spoil(int slot, int at, int b) {
        return askWhether("spoil(" + slot + ", " + at + ", " + b + ")",
                f -> f.spoil(slot, at, b) ? 1 : 0);
    }

    long peek(int slot, int at) {
        return ask("peek(" + slot + ", " + at + ")", f -> f.peek(slot, at));
    }

    long open(int parent) {
        return ask("open(" + parent + ")", f -> f.open(parent));
    }

    boolean append(int loader, int slot) {
        return askWhether("append(" + loader + ", " + slot + ")",
                f -> f.append(loader, slot) ? 1 : 0);
    }

    boolean close(int loader) {
        return askWhether("close(" + loader + ")", f -> f.close(loader) ? 1 : 0);
    }

    long load(int loader, int name) {
        return ask("load(" + loader + ", " + name + ")", f -> f.load(loader, name));
    }

    long fault() {
        return ask("fault()", Face::fault);
    }

    long culprit() {
        return ask("culprit()", Face::culprit);
    }

    long type(int k, int what) {
        return ask("type(" + k + ", " + what + ")", f -> f.type(k, what));
    }

    long all(int loader, int name, int k) {
        return ask("all(" + loader + ", " + name + ", " + k + ")", f -> f.all(loader, name, k));
    }

    long content(int place, int i) {
        return ask("content(" + place + ", " + i + ")", f -> f.content(place, i));
    }

    long services(int loader, int name) {
        return ask("services(" + loader + ", " + name + ")", f -> f.services(loader, name));
    }

    long next() {
        return ask("next()", Face::next);
    }
}
