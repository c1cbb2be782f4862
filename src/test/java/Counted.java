/** A ClassHouse whose calls are counted, since what it answers behind the 512th is free. */
final class Counted implements Face {
    static final int MOST_CALLS = 512;

    private final ClassHouse house = new ClassHouse();
    private final Check check;
    private final String about;
    private int calls = 0;

    Counted(Check check, String about) {
        this.check = check;
        this.about = about;
    }

    int calls() {
        return calls;
    }

    private ClassHouse called() {
        calls++;
        if (calls == MOST_CALLS + 1) {
            check.due(about + ": the calls of one object, at most", calls, MOST_CALLS);
        }
        return house;
    }

    @Override
    public boolean put(long v, int n) {
        return called().put(v, n);
    }

    /** Puts a row with as few calls as it takes; true if all were. */
    boolean putAll(int... row) {
        boolean all = true;
        for (int from = 0; from < row.length; from += 8) {
            long v = 0;
            int n = Math.min(8, row.length - from);
            for (int i = 0; i < n; i++) {
                v |= (long) row[from + i] << 8 * i;
            }
            all &= put(v, n);
        }
        return all;
    }

    @Override
    public boolean enter(int name, int method) {
        return called().enter(name, method);
    }

    @Override
    public boolean finish(int slot) {
        return called().finish(slot);
    }

    @Override
    public boolean spoil(int slot, int at, int b) {
        return called().spoil(slot, at, b);
    }

    @Override
    public int peek(int slot, int at) {
        return called().peek(slot, at);
    }

    @Override
    public int open(int parent) {
        return called().open(parent);
    }

    @Override
    public boolean append(int loader, int slot) {
        return called().append(loader, slot);
    }

    @Override
    public boolean close(int loader) {
        return called().close(loader);
    }

    @Override
    public int load(int loader, int name) {
        return called().load(loader, name);
    }

    @Override
    public int fault() {
        return called().fault();
    }

    @Override
    public int culprit() {
        return called().culprit();
    }

    @Override
    public int type(int k, int what) {
        return called().type(k, what);
    }

    @Override
    public int all(int loader, int name, int k) {
        return called().all(loader, name, k);
    }

    @Override
    public int content(int place, int i) {
        return called().content(place, i);
    }

    @Override
    public int services(int loader, int name) {
        return called().services(loader, name);
    }

    @Override
    public int next() {
        return called().next();
    }
}
