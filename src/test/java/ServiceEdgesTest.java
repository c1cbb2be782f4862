/** The boundary cases of promises 16 and 17, and of the term SERVICES. */
public final class ServiceEdgesTest {
    private static final Check CHECK = new Check();
    private static final int PUBLIC = House.PUBLIC;
    private static final int FINAL = House.FINAL;
    private static final int INTERFACE = House.INTERFACE;

    public static void main(String[] args) {
        withoutAnIteration();
        atItsEnd();
        zeroToSixteenPlaces();
        namesOfLists();
        listWhenItBegins();
        staysBehindEachFault();
        staysBehindNoSuchLoaderOrName();
        beginsAnew();
        linesBetweenBytes10();
        behindANumberSign();
        blanksAtBothEnds();
        emptyOnesArePassed();
        twoLettersOfAClass();
        whatIsLeftIsPassed();
        corruptPlaces();
        contentAsItIsThen();
        goesOnAtTheByte();
        contentThatGetsShorterOrLonger();
        toldAlready();
        anyFaultBecomes14();
        interfacesAre15();
        superClassesAndInterfaces();
        classesOfAnotherLoader();
        loadsByItsLoader();
        contentOf200Bytes();
        faultsOfNext();
        CHECK.end();
    }

    private static int number(String name) {
        return House.number(name);
    }

    /** Archive 0: the root, an interface bA, bB with it, bC below bB, bD with none, and a list. */
    private static House base(String about, String list) {
        House h = new House(CHECK, about);
        h.simple("aA", "").entry("bA", 0, House.file(1, PUBLIC | INTERFACE, "bA", "aA"));
        h.simple("bB", "aA", "bA").simple("bC", "bB").simple("bD", "aA");
        return h.text("SbA", list).archive(0).loader(-1, 0);
    }

    private static House begun(String list) {
        House h = base("<" + list.replace("\n", "|") + ">", list);
        h.serves(0, "bA", 1);
        return h;
    }

    private static void dueNextName(House h, String name) {
        h.due("next() throws", h.thrownByNext(), 0);
        h.due("the name of next()", h.x.type(h.latest, 0), number(name));
        h.dueFault(0, -1);
    }

    /** What a list tells: names, or 13, 14 or 15 for a fault; then its end. */
    private static void due(String list, String... want) {
        House h = begun(list);
        for (String name : want) {
            if (name.equals("13")) {
                h.nextFails(13, -1);
            } else if (name.startsWith("1")) {
                h.nextFails(Integer.parseInt(name.substring(0, 2)), number(name.substring(2)));
            } else {
                dueNextName(h, name);
            }
        }
        h.dueNext(-1);
        h.dueNext(-1);
    }

    /** Promise 17: "NONE (and no fault) .. if there is none". */
    private static void withoutAnIteration() {
        House h = new House(CHECK, "no iteration");
        h.dueNext(-1);
        h.loader(-1);
        h.dueNext(-1);
        h.fails(0, "bA", 1, "bA");
        h.dueNext(-1);
        h.due("services throws", h.thrownByServices(0, 8), House.MISSING);
        h.dueNext(-1);
        h.due("services throws", h.thrownByServices(1, 8), House.OUT);
        h.dueNext(-1);
    }

    /** Promise 17: "NONE (and no fault) at its end", again and again. */
    private static void atItsEnd() {
        House h = begun("bB\ndD");
        h.dueNext(2);
        h.nextFails(14, number("dD"));
        for (int i = 0; i < 5; i++) {
            h.dueNext(-1);
        }
        h.fails(0, "dD", 1, "dD");
        h.dueNext(-1);
        House none = base("no places", "bB");
        none.serves(0, "bB", 0);
        none.dueNext(-1);
        none.dueNext(-1);
    }

    /** Promise 16: "how many places its list has": up to four loaders with four archives. */
    private static void zeroToSixteenPlaces() {
        for (int loaders = 1; loaders <= 4; loaders++) {
            for (int archives = 0; archives <= 4; archives++) {
                House h = new House(CHECK, loaders + " loaders with " + archives + " archives");
                h.simple("aA", "").text(archives > 0 ? "SaA" : "SaB", "aA").archive(0);
                for (int slot = 1; slot < 4; slot++) {
                    h.text(slot < archives ? "SaA" : "SaB", "aA\naB").archive(slot);
                }
                for (int k = 0; k < loaders; k++) {
                    h.loader(k - 1, 0, 1, 2, 3);
                }
                h.serves(loaders - 1, "aA", loaders * archives);
                if (archives > 0) {
                    h.dueNext(0);
                }
                if (archives > 1) {
                    h.nextFails(14, number("aB"));
                }
                h.dueNext(-1);
            }
        }
    }

    /** "the name of S and the class's two letters", and its versions */
    private static void namesOfLists() {
        String[] names = {"aA", "aH", "bA", "dA", "dH"};
        for (String name : names) {
            House h = new House(CHECK, "S" + name);
            h.simple("aA", "").text("s" + name, "x").text("S" + name.charAt(0), "x");
            h.text(name + "S", "x");
            if (!name.equals("aA")) {
                h.simple(name, "aA");
            }
            h.archive(0).text("S" + name, name).archive(1).loader(-1, 0, 1);
            h.serves(0, name, 1);
            dueNextName(h, name);
            h.dueNext(-1);
        }
        House h = base("versions", "bD");
        h.text("M", "V:Y\n").text("2SbA", "bC").archive(1);
        h.text("M", "V:Y\n").text("SbA", "bD").text("2SbA", "bD").text("3SbA", "bB").archive(2);
        h.due("append(0, 1)", h.x.append(0, 1), true);
        h.due("append(0, 2)", h.x.append(0, 2), true);
        h.serves(0, "bA", 3);
        h.nextFails(15, number("bD"));
        dueNextName(h, "bC");
        dueNextName(h, "bB");
        h.dueNext(-1);
    }

    /** "the list of places that all() tells .. when it begins" */
    private static void listWhenItBegins() {
        House h = base("when it begins", "bB");
        h.due("append(0, 1)", h.x.append(0, 1), true);
        h.serves(0, "bA", 1);
        h.text("SbA", "bC").archive(1);
        h.text("SbA", "bD").archive(2);
        h.due("append(0, 2)", h.x.append(0, 2), true);
        h.dueNext(2);
        h.dueNext(-1);
        h.serves(0, "bA", 3);
        h.due("close(0)", h.x.close(0), true);
        h.dueNext(2);
        h.nextFails(14, number("bC"));
        h.nextFails(14, number("bD"));
        h.dueNext(-1);
        h.serves(0, "bA", 0);
        h.dueNext(-1);
        House renamed = base("renamed", "bB");
        renamed.text("SbA", "bC").archive(1);
        renamed.due("append(0, 1)", renamed.x.append(0, 1), true);
        renamed.serves(0, "bA", 2);
        renamed.set(1, 4 + 1, 'T');
        renamed.due("all(0, SbA, 1)", renamed.x.all(0, House.name("SbA"), 1), -1);
        renamed.dueNext(2);
        renamed.dueNext(3);
        renamed.dueNext(-1);
    }

    /** Promise 16: "(it throws as load() does, and then the iteration stays)". */
    private static void staysBehindEachFault() {
        House h = base("stays", "bC\nbB\ncA\ncB");
        h.text("cA", "x").entry("cB", 0, House.file(9, PUBLIC, "cB", "aA"));
        h.simple("cC", "cC").simple("cD", "dD").simple("cE", "bA").archive(1);
        h.entry("cF", 0, House.file(1, PUBLIC, "cG", "aA")).simple("bE", "aA");
        h.text("M", "Z:b\n").archive(2);
        h.due("append(0, 1)", h.x.append(0, 1), true);
        h.due("append(0, 2)", h.x.append(0, 2), true);
        h.serves(0, "bA", 1);
        h.dueNext(3);
        String[] names = {"dH", "cA", "cB", "cC", "cD", "cE", "cF", "bE"};
        int[] faults = {1, 3, 4, 6, 7, 8, 5, 10};
        for (int i = 0; i < names.length; i++) {
            h.due("services of " + names[i], h.thrownByServices(0, number(names[i])),
                    House.kindOf(faults[i]));
            h.dueFault(faults[i], number(faults[i] == 7 ? "dD" : names[i]));
        }
        h.dueNext(2);
        h.nextFails(14, number("cA"));
        h.due("services of dH", h.thrownByServices(0, number("dH")), House.MISSING);
        h.nextFails(14, number("cB"));
        h.dueNext(-1);
    }

    /** "What throws IndexOutOfBoundsException changes nothing (nor the fault)" */
    private static void staysBehindNoSuchLoaderOrName() {
        House h = begun("bC\ncA\nbB");
        int[][] wrong = {{-1, 8}, {1, 8}, {4, 8}, {0, -1}, {0, 32}, {Integer.MAX_VALUE, 8},
            {0, Integer.MIN_VALUE}, {-1, -1}};
        h.dueNext(3);
        for (int[] call : wrong) {
            h.due("services", h.thrownByServices(call[0], call[1]), House.OUT);
            h.dueFault(0, -1);
        }
        h.nextFails(14, number("cA"));
        for (int[] call : wrong) {
            h.due("services", h.thrownByServices(call[0], call[1]), House.OUT);
            h.due("load", h.thrownByLoad(call[0], call[1]), House.OUT);
            h.dueFault(14, number("cA"));
        }
        h.dueNext(2);
        h.dueNext(-1);
    }

    /** Promise 16: "an iteration for this begins", at its first byte and with nothing told. */
    private static void beginsAnew() {
        House h = begun("bC\nbD\nbB\nx");
        for (int i = 0; i < 3; i++) {
            h.dueNext(3);
            h.nextFails(15, number("bD"));
            if (i == 1) {
                h.dueNext(2);
                h.nextFails(13, -1);
                h.dueNext(-1);
            }
            h.serves(0, "bA", 1);
        }
        h.serves(0, "bB", 0);
        h.dueNext(-1);
        h.serves(0, "bA", 1);
        h.dueNext(3);
    }

    /** "has lines (a byte 10 between two)" */
    private static void linesBetweenBytes10() {
        due("");
        due("\n");
        due("\n\n\n");
        due("bB", "bB");
        due("bB\n", "bB");
        due("\nbB", "bB");
        due("\n\nbB\n\n", "bB");
        due("bB\nbC", "bB", "bC");
        due("bB\n\nbC\n", "bB", "bC");
        due("bB\13bC", "13");
        due("bB\rbC", "13");
        due("bB\11\nbC", "13");
    }

    /** "of a line what is behind a # is passed" */
    private static void behindANumberSign() {
        due("#");
        due("#bB");
        due("#\nbB", "bB");
        due("bB#", "bB");
        due("bB#bC", "bB");
        due("bB#bC\nbC#", "bB", "bC");
        due("bB##", "bB");
        due("##bB");
        due("bB #", "bB");
        due(" # bB");
        due("b#B", "13");
        due("#\377\0\11", new String[0]);
        due("bB\"bC", "13");
        due("bB$bC", "13");
    }

    /** "and blanks at both ends": blanks are bytes 32 alone. */
    private static void blanksAtBothEnds() {
        due(" bB", "bB");
        due("bB ", "bB");
        due("   bB   ", "bB");
        due("  bB  #  ", "bB");
        due("b B", "13");
        due(" b B ", "13");
        due("bB bC", "13");
        char[] others = {0, 9, 11, 12, 13, 31, 33, 127, 160};
        for (char c : others) {
            due(c + "bB", "13");
            due("bB" + c, "13");
            due("" + c, "13");
        }
    }

    /** "an empty one is passed" */
    private static void emptyOnesArePassed() {
        due(" ");
        due("    \n   ");
        due(" #\n#\n \nbB", "bB");
        due("bB\n   \n", "bB");
    }

    /** "each other one must be the two letters of a class" */
    private static void twoLettersOfAClass() {
        due("b", "13");
        due("B", "13");
        due("bBB", "13");
        due("bBbC", "13");
        due("8", "13");
        int[] firsts = {0, 'A', '`', 'e', 226};
        for (int first : firsts) {
            due((char) first + "B", "13");
        }
        int[] seconds = {0, '@', 'I', 'b', 194};
        for (int second : seconds) {
            due("b" + (char) second, "13");
        }
        due("aA", "15aA");
        due("aH", "14aH");
        due("dA", "14dA");
        due("dH", "14dH");
    }

    /** "is fault 13 (without a culprit), and what is left of that place is passed" */
    private static void whatIsLeftIsPassed() {
        due("x\nbB", "13");
        due("bB\nx\nbC", "bB", "13");
        due("bB\nbC\nx", "bB", "bC", "13");
        due("bB\nx\ny\nz", "bB", "13");
        House h = base("three places", "bB\nx\nbC");
        h.text("SbA", "y").archive(1).text("SbA", "bC\nz\nbD").archive(2);
        h.due("append(0, 1)", h.x.append(0, 1), true);
        h.due("append(0, 2)", h.x.append(0, 2), true);
        h.serves(0, "bA", 3);
        h.dueNext(2);
        h.nextFails(13, -1);
        h.nextFails(13, -1);
        h.dueNext(3);
        h.nextFails(13, -1);
        h.dueNext(-1);
    }

    /** "A corrupt one .. is fault 13", also the first, the last, or each one */
    private static void corruptPlaces() {
        for (int set = 0; set < 8; set++) {
            House h = base("corrupt " + set, "bB");
            h.text("SbA", "bC").archive(1).text("SbA", "bD").archive(2);
            h.due("append(0, 1)", h.x.append(0, 1), true);
            h.due("append(0, 2)", h.x.append(0, 2), true);
            int[] at = {8 + 2 + 10 + 12 + 10 + 10 + 2, 2, 2};
            for (int slot = 0; slot < 3; slot++) {
                if ((set >> slot & 1) == 1) {
                    h.due("spoil", h.x.spoil(slot, at[slot], 1), true);
                }
            }
            h.serves(0, "bA", 3);
            for (int slot = 0; slot < 3; slot++) {
                if ((set >> slot & 1) == 1) {
                    h.nextFails(13, -1);
                } else if (slot == 2) {
                    h.nextFails(15, number("bD"));
                } else {
                    dueNextName(h, slot == 0 ? "bB" : "bC");
                }
            }
            h.dueNext(-1);
        }
    }

    /** Archive 1 serves bA with this list; its record begins behind it, at 2 and its length. */
    private static House second(String list) {
        House h = base("second <" + list.replace("\n", "|") + ">", "bD");
        h.text("SbA", list).archive(1);
        h.due("append(0, 1)", h.x.append(0, 1), true);
        h.serves(0, "bA", 2);
        h.nextFails(15, number("bD"));
        return h;
    }

    /** The list of archive 1 becomes another one; there must be as many bytes for it. */
    private static void rewrite(House h, int record, String list) {
        for (int i = 0; i < list.length(); i++) {
            if (h.x.peek(1, 2 + i) != list.charAt(i)) {
                h.set(1, 2 + i, list.charAt(i));
            }
        }
        int sum = House.sum(House.bytes(list));
        for (int i = 0; i < 4; i++) {
            h.set(1, record + 5 + i, sum >>> 8 * i & 255);
        }
        h.set(1, record + 9, list.length());
        h.set(1, record + 11, list.length());
        h.dueContent(8, list);
    }

    /** "Each place's content (as it is then)" */
    private static void contentAsItIsThen() {
        House h = second("dD\nbC");
        rewrite(h, 7, "bB\nbC");
        dueNextName(h, "bB");
        rewrite(h, 7, "bB\ndC");
        h.nextFails(14, number("dC"));
        h.dueNext(-1);
        House corrupt = second("bB\nbC");
        dueNextName(corrupt, "bB");
        corrupt.due("spoil", corrupt.x.spoil(1, 2, 1), true);
        corrupt.nextFails(13, -1);
        corrupt.due("mend", corrupt.x.spoil(1, 2, 1), true);
        corrupt.dueNext(-1);
        House gone = second("bB\nbC");
        dueNextName(gone, "bB");
        gone.due("not sound", gone.x.spoil(1, 0, 1), true);
        gone.nextFails(13, -1);
        gone.dueNext(-1);
        House mended = second("bB\nbC");
        dueNextName(mended, "bB");
        mended.due("spoil", mended.x.spoil(1, 2, 1), true);
        mended.due("mend", mended.x.spoil(1, 2, 1), true);
        dueNextName(mended, "bC");
        mended.dueNext(-1);
    }

    /** "An iteration goes on at the byte of the place where it was." */
    private static void goesOnAtTheByte() {
        House h = second("bB\nbC\ndD");
        dueNextName(h, "bB");
        rewrite(h, 10, "xx\nbC\ndD");
        dueNextName(h, "bC");
        rewrite(h, 10, "\n\n\n\n\n\ndD");
        h.nextFails(14, number("dD"));
        rewrite(h, 10, "dA\ndB\ndC");
        h.dueNext(-1);
        House moved = second("bB\nbC\n");
        dueNextName(moved, "bB");
        // The byte 3 is in the middle of a line now: what is left of it is a line.
        rewrite(moved, 8, "   bC#");
        dueNextName(moved, "bC");
        moved.dueNext(-1);
        House part = second("bB\nbC\n");
        dueNextName(part, "bB");
        rewrite(part, 8, "bCbBC\n");
        part.nextFails(13, -1);
        part.dueNext(-1);
    }

    /** A content that has fewer bytes than where it was has nothing left. */
    private static void contentThatGetsShorterOrLonger() {
        String[] shorter = {"", "d", "dA", "dA\n"};
        for (String list : shorter) {
            House h = second("bB\nbC");
            dueNextName(h, "bB");
            rewrite(h, 7, list);
            h.dueNext(-1);
        }
        House one = second("bB\nbC");
        dueNextName(one, "bB");
        rewrite(one, 7, "dA\nd");
        one.nextFails(13, -1);
        one.dueNext(-1);
        // At first the list has two of its five bytes.
        House longer = base("longer", "bD");
        longer.text("SbA", "bB\nbC").archive(1);
        longer.due("append(0, 1)", longer.x.append(0, 1), true);
        rewrite(longer, 7, "bB");
        longer.serves(0, "bA", 2);
        longer.nextFails(15, number("bD"));
        dueNextName(longer, "bB");
        rewrite(longer, 7, "bB\nbC");
        dueNextName(longer, "bC");
        longer.dueNext(-1);
    }

    /** "A class told already in this iteration (also one with a fault) is passed." */
    private static void toldAlready() {
        due("bB\nbB", "bB");
        due("bB\nbB\nbB\nbC\nbB\nbC", "bB", "bC");
        due("dD\ndD\nbB\ndD", "14dD", "bB");
        due("bD\nbD\nbA\nbD\nbA", "15bD", "15bA");
        House h = second("bD\nbB\nbD\nbB");
        dueNextName(h, "bB");
        h.dueNext(-1);
        House mended = base("a fault that is none any more", "dD\nbB\ndD");
        mended.due("append(0, 1)", mended.x.append(0, 1), true);
        mended.serves(0, "bA", 1);
        mended.nextFails(14, number("dD"));
        mended.simple("dD", "bB").archive(1);
        dueNextName(mended, "bB");
        mended.dueNext(-1);
        mended.serves(0, "bA", 1);
        dueNextName(mended, "dD");
    }

    /** "any fault becomes a fault 14 .. the culprit is that name" */
    private static void anyFaultBecomes14() {
        House h = base("any fault", "dH\ncA\ncB\ncC\ncD\ncE\ncF\ncG\nbE\nbB");
        h.text("cA", "x").entry("cB", 0, House.file(9, PUBLIC, "cB", "aA"));
        h.simple("cC", "cC").simple("cD", "dD").simple("cE", "bA").archive(1);
        h.entry("cF", 0, House.file(1, PUBLIC, "cG", "aA")).simple("bE", "aA");
        h.simple("cG", "aA").text("M", "Z:b\n").archive(2);
        h.due("append(0, 1)", h.x.append(0, 1), true);
        h.due("append(0, 2)", h.x.append(0, 2), true);
        h.due("cG is corrupt", h.x.spoil(2, 20 + 2, 1), true);
        String[] names = {"dH", "cA", "cB", "cC", "cD", "cE", "cF", "cG", "bE"};
        int[] faults = {1, 3, 4, 6, 7, 8, 5, 2, 10};
        h.serves(0, "bA", 1);
        for (int i = 0; i < names.length; i++) {
            h.due("load of " + names[i], h.thrownByLoad(0, number(names[i])),
                    House.kindOf(faults[i]));
            h.due("its fault", h.x.fault(), faults[i]);
            h.nextFails(14, number(names[i]));
        }
        h.due("load of bB", h.thrownByLoad(0, number("bB")), 0);
        dueNextName(h, "bB");
        h.dueNext(-1);
        House late = base("9 and 11", "bB");
        late.entry("cA", 0, House.file(1, 0, "cA", "aA")).archive(1);
        late.simple("aH", "aA").simple("dA", "cA").text("SbA", "aH\ndA").archive(2);
        late.due("append(0, 1)", late.x.append(0, 1), true);
        late.loader(0, 2);
        late.serves(1, "bA", 2);
        late.dueNext(2);
        late.fails(1, "aH", 11, "aH");
        late.nextFails(14, number("aH"));
        late.fails(1, "dA", 9, "dA");
        late.nextFails(14, number("dA"));
        late.dueNext(-1);
    }

    /** "fault 15 if it is an INTERFACE", be it the iteration's class, or one with it. */
    private static void interfacesAre15() {
        House h = new House(CHECK, "interfaces");
        h.simple("aA", "").entry("bA", 0, House.file(1, PUBLIC | INTERFACE, "bA", "aA"));
        h.entry("bB", 0, House.file(1, PUBLIC | INTERFACE, "bB", "aA", "bA"));
        h.entry("bC", 0, House.file(1, FINAL, "bC", "aA", "bB"));
        h.text("SbA", "bA\nbB\nbC").text("SaA", "bA\naA\nbB\nbC").archive(0).loader(-1, 0);
        h.serves(0, "bA", 1);
        h.nextFails(15, number("bA"));
        h.nextFails(15, number("bB"));
        dueNextName(h, "bC");
        h.dueNext(-1);
        h.serves(0, "aA", 1);
        h.nextFails(15, number("bA"));
        dueNextName(h, "aA");
        h.nextFails(15, number("bB"));
        dueNextName(h, "bC");
        h.dueNext(-1);
    }

    /** "neither it nor a super class or interface of it, of these, and so on" */
    private static void superClassesAndInterfaces() {
        House h = new House(CHECK, "and so on");
        h.simple("aA", "").entry("bA", 0, House.file(1, PUBLIC | INTERFACE, "bA", "aA"));
        h.entry("bB", 0, House.file(1, PUBLIC | INTERFACE, "bB", "aA", "bA"));
        h.entry("bC", 0, House.file(1, PUBLIC | INTERFACE, "bC", "aA", "bD", "bB"));
        h.entry("bD", 0, House.file(1, PUBLIC | INTERFACE, "bD", "aA")).archive(0);
        h.simple("cA", "aA", "bD", "bC").simple("cB", "cA").simple("cC", "cB", "bD");
        h.simple("cD", "aA", "bD").simple("cE", "cD").simple("cF", "cE", "bD", "bA").archive(1);
        h.text("SbA", "cC\ncE\ncF\ncD\ncB\ncA").text("SbD", "cE\ncC\naA\ncD");
        h.text("ScA", "cC\ncA\ncF\ncB\naA").archive(2).loader(-1, 0, 1, 2);
        String[] lists = {"bA", "bD", "cA"};
        String[][] names = {{"cC", "cE", "cF", "cD", "cB", "cA"}, {"cE", "cC", "aA", "cD"},
            {"cC", "cA", "cF", "cB", "aA"}};
        String[] fits = {"101011", "1101", "11010"};
        for (int i = 0; i < lists.length; i++) {
            h.serves(0, lists[i], 1);
            for (int k = 0; k < names[i].length; k++) {
                if (fits[i].charAt(k) == '1') {
                    dueNextName(h, names[i][k]);
                } else {
                    h.nextFails(15, number(names[i][k]));
                }
            }
            h.dueNext(-1);
        }
    }

    /** A class of the same name, but of another loader, is another class. */
    private static void classesOfAnotherLoader() {
        House h = new House(CHECK, "another loader's");
        h.simple("aA", "").simple("cA", "bA").text("SbA", "cA\nbA").archive(0);
        h.simple("bA", "aA").archive(1).loader(-1, 0, 2).loader(0, 1);
        h.loads(1, "bA", 1);
        h.simple("bA", "aA").archive(2);
        h.loads(0, "bA", 2);
        h.serves(1, "bA", 1);
        h.nextFails(15, number("cA"));
        h.dueNext(1);
        h.dueNext(-1);
        h.serves(0, "bA", 1);
        dueNextName(h, "cA");
        h.dueNext(2);
        h.dueNext(-1);
    }

    /** "It is loaded" by the iteration's loader; that the parent missed it is no fault. */
    private static void loadsByItsLoader() {
        House h = base("its loader", "cA\nbB");
        h.simple("cA", "bB").archive(1).loader(0, 1);
        h.serves(1, "bA", 1);
        dueNextName(h, "cA");
        h.due("its loader", h.x.type(h.latest, 1), 1);
        dueNextName(h, "bB");
        h.dueNext(-1);
        h.serves(0, "bA", 1);
        h.nextFails(14, number("cA"));
        dueNextName(h, "bB");
        h.dueNext(-1);
    }

    /** A list may have 200 bytes, and is told to its last one. */
    private static void contentOf200Bytes() {
        String[] lastLines = {"bC", "  ", "##", " #", "# ", "b ", "\n\n", "\nb"};
        for (String last : lastLines) {
            // 66 lines of 3 bytes and two bytes more.
            int[] packed = new Bits().block(true, 1).letters("bB\n").letter(283).number(0, 5)
                    .distance(2).letters(last).letter(256).bytes();
            House h = base("200 bytes", "bD");
            h.entry("SbA", 8, packed).archive(1);
            h.due("append(0, 1)", h.x.append(0, 1), true);
            h.due("content(8, 199)", h.x.content(8, 199), last.charAt(1));
            h.due("content(8, 200)", h.x.content(8, 200), -1);
            h.serves(0, "bA", 2);
            h.nextFails(15, number("bD"));
            dueNextName(h, "bB");
            if (last.equals("bC")) {
                dueNextName(h, "bC");
            } else if (last.contains("b")) {
                h.nextFails(13, -1);
            }
            h.dueNext(-1);
        }
    }

    /** Promise 17: "IllegalStateException for the faults 13 to 15; it goes on behind." */
    private static void faultsOfNext() {
        House h = base("goes on", "dD\nbD\nbA\nx\nbC");
        h.text("SbA", "bB").archive(1);
        h.due("append(0, 1)", h.x.append(0, 1), true);
        h.serves(0, "bA", 2);
        h.nextFails(14, number("dD"));
        h.nextFails(15, number("bD"));
        h.nextFails(15, number("bA"));
        h.nextFails(13, -1);
        dueNextName(h, "bB");
        h.dueNext(-1);
        h.due("classes that were defined stay", h.x.type(2, 0), number("bD"));
    }
}
