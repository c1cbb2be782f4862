/** The calls of the document's face, so that the class and its twin can be asked alike. */
interface Face {
    boolean put(long v, int n);

    boolean enter(int name, int method);

    boolean finish(int slot);

    boolean spoil(int slot, int at, int b);

    int peek(int slot, int at);

    int open(int parent);

    boolean append(int loader, int slot);

    boolean close(int loader);

    int load(int loader, int name);

    int fault();

    int culprit();

    int type(int k, int what);

    int all(int loader, int name, int k);

    int content(int place, int i);

    int services(int loader, int name);

    int next();
}
