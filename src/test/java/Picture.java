import java.util.function.IntSupplier;

/** All that an object's calls tell of its state, in one text, so that two can be compared. */
final class Picture {
    private static final String[] NAMES = {"aA", "bB", "SbA"};
    private static final String[] CLASSES = {"bB", "bC", "dD"};

    private final Counted x;
    private final StringBuilder text = new StringBuilder();

    private Picture(Counted x) {
        this.x = x;
    }

    /** The object is changed by it: what is drafted and made is shown by finishing it. */
    static String of(House h) {
        Picture picture = new Picture(h.x);
        picture.showFault();
        for (int slot = 0; slot < 4; slot++) {
            picture.showBytes(slot);
        }
        picture.showTypes();
        picture.showPlaces();
        picture.showIteration();
        picture.showLoaders();
        picture.showMade();
        return picture.text.toString();
    }

    private void add(String what, long answer) {
        text.append(what).append(answer).append(' ');
    }

    private void add(String what, boolean answer) {
        add(what, answer ? 1 : 0);
    }

    private void showFault() {
        add("fault ", x.fault());
        add("culprit ", x.culprit());
    }

    /** Answers -1 for the end, so that a caller can stop. */
    private int answerOf(IntSupplier call) {
        int answer;
        try {
            answer = call.getAsInt();
            text.append(answer).append(' ');
        } catch (RuntimeException e) {
            answer = 0;
            text.append(e.getClass().getSimpleName()).append(' ');
        }
        showFault();
        return answer;
    }

    private void showBytes(int slot) {
        text.append("\narchive ").append(slot).append(": ");
        int at = 0;
        for (int b = x.peek(slot, 0); b >= 0; b = x.peek(slot, at)) {
            text.append(b).append(' ');
            at++;
        }
    }

    private void showTypes() {
        text.append("\nclasses: ");
        for (int k = 0; x.type(k, 0) >= 0; k++) {
            for (int what = 0; what < 8; what++) {
                add("", x.type(k, what));
            }
        }
    }

    private void showPlaces() {
        text.append("\nplaces: ");
        for (int place = 0; place < 32; place += place % 8 == 5 ? 3 : 1) {
            add("", x.content(place, 0));
        }
        for (int loader = 0; loader < 4; loader++) {
            for (String name : NAMES) {
                add(name + " ", x.all(loader, House.name(name), 0));
            }
        }
    }

    private void showIteration() {
        text.append("\niteration: ");
        for (int i = 0; i < 8 && answerOf(x::next) >= 0; i++) {
            text.append("; ");
        }
    }

    private void showLoaders() {
        text.append("\nloaders: ");
        for (String name : CLASSES) {
            answerOf(() -> x.load(1, House.number(name)));
        }
        for (int loader = 0; loader < 4; loader++) {
            boolean room = true;
            for (int i = 0; i < 5 && room; i++) {
                room = x.append(loader, 3);
                add("append ", room);
            }
            add("close ", x.close(loader));
        }
        for (int i = 0; i < 4; i++) {
            add("open ", x.open(i - 1));
        }
    }

    private void showMade() {
        text.append("\nmade: ");
        add("put ", x.put(-1, 2));
        add("enter ", x.enter('z', 0));
        int slot = x.finish(2) ? 2 : 3;
        add("finish ", slot == 2 || x.finish(3));
        showBytes(slot);
    }
}
