/** The boundary cases of promises 10 to 13, and of how a loader loads. */
public final class LoadEdgesTest {
    private static final Check CHECK = new Check();
    private static final int LOWEST = Integer.MIN_VALUE;
    private static final int HIGHEST = Integer.MAX_VALUE;
    private static final int PUBLIC = House.PUBLIC;
    private static final int FINAL = House.FINAL;
    private static final int INTERFACE = House.INTERFACE;

    public static void main(String[] args) {
        noSuchLoader();
        noSuchName();
        whatIsThrownForEachFault();
        definedOnce();
        definedBeforeAllElse();
        circlesOfAnyLength();
        noCircleBehindOne();
        parentsWithEachFault();
        theFirstOfThePath();
        packagesFirstTaken();
        packagesAndTheirLetters();
        packagesReadableNow();
        packagesOfTwoArchivesOnly();
        packagesOfEachLoader();
        faultsBeforeTheFile();
        packageAOfLoader0();
        partsWithEachFault();
        partsOneByOne();
        kindsOfParts();
        accessToParts();
        kindBeforeAccess();
        numbersFrom0On();
        latestFaultAndCulprit();
        culpritsOfPartsNotFound();
        typesOfClasses();
        classesStay();
        CHECK.end();
    }

    private static House withRoot(String about) {
        return new House(CHECK, about).simple("aA", "");
    }

    private static int[] face(String name, String... more) {
        return House.file(1, PUBLIC | INTERFACE, name, "aA", more);
    }

    /** Promise 10: "IndexOutOfBoundsException if there is no such loader"; it changes nothing. */
    private static void noSuchLoader() {
        int[] loaders = {LOWEST, -2, -1, 0, 1, 2, 3, 4, 5, HIGHEST};
        for (int n = 0; n <= 4; n++) {
            House h = withRoot(n + " loaders");
            h.archive(0);
            for (int i = 0; i < n; i++) {
                h.loader(i - 1, 0);
            }
            for (int loader : loaders) {
                boolean there = loader >= 0 && loader < n;
                h.due("load(" + loader + ", 0)", h.thrownByLoad(loader, 0), there ? 0 : House.OUT);
                h.due("services(" + loader + ", 0)", h.thrownByServices(loader, 0),
                        there ? 0 : House.OUT);
                h.dueFault(0, -1);
            }
        }
    }

    /** Promise 10: "or name"; "What throws IndexOutOfBoundsException changes nothing". */
    private static void noSuchName() {
        House h = withRoot("names");
        h.simple("dH", "aA").archive(0).loader(-1, 0);
        h.fails(0, "cC", 1, "cC");
        int[] wrong = {LOWEST, -32, -1, 32, 33, 64, 256, HIGHEST};
        for (int name : wrong) {
            h.due("load(0, " + name + ")", h.thrownByLoad(0, name), House.OUT);
            h.due("services(0, " + name + ")", h.thrownByServices(0, name), House.OUT);
            h.due("load(1, " + name + ")", h.thrownByLoad(1, name), House.OUT);
            h.dueFault(1, House.number("cC"));
        }
        h.due("type(0, 0)", h.x.type(0, 0), -1);
        h.loads(0, "aA", 0);
        h.due("load(0, -1)", h.thrownByLoad(0, -1), House.OUT);
        h.dueFault(0, -1);
        h.loads(0, "dH", 1);
    }

    /**
     * A loader, the second or third, whose load of the target has the fault; the archives 0 and 1
     * are taken, and there is a loader 0 with archive 0.
     */
    private static House withFault(String about, int fault) {
        House h = withRoot(about + ", fault " + fault);
        h.entry("cA", 0, House.file(1, 0, "cA", "aA"));
        h.entry("cF", 0, House.file(1, PUBLIC | FINAL, "cF", "aA")).archive(0).loader(-1, 0);
        switch (fault) {
            case 1: h.text("dD", ""); break;
            case 2: h.simple("bA", "aA"); break;
            case 3: h.text("bA", "x"); break;
            case 4: h.entry("bA", 0, House.file(4, PUBLIC, "bA", "aA")); break;
            case 5: h.simple("bA", "aA").simple("bB", "aA"); break;
            case 6: h.simple("bA", "bA"); break;
            case 7: h.simple("bA", "dH"); break;
            case 8: h.simple("bA", "cF"); break;
            case 9: h.simple("bA", "cA"); break;
            case 10: h.simple("bB", "aA").text("M", "Z:b\nP:2\n"); break;
            default: h.simple("aB", "aA"); break;
        }
        h.archive(1).loader(0, 1);
        if (fault == 2) {
            h.due("spoil", h.x.spoil(1, 2, 1), true);
        } else if (fault == 5) {
            // The entries bA and bB change their names.
            h.set(1, 20 + 2, 'B').set(1, 20 + 14 + 2, 'A');
        } else if (fault == 10) {
            h.simple("bA", "aA").archive(2);
            h.loads(1, "bB", 1);
        }
        return h;
    }

    private static String targetOf(int fault) {
        return fault == 11 ? "aB" : "bA";
    }

    private static String culpritOf(int fault) {
        return fault == 7 ? "dH" : targetOf(fault);
    }

    /** Promises 10 and 16: what is thrown for each fault. */
    private static void whatIsThrownForEachFault() {
        for (int fault = 1; fault <= 11; fault++) {
            House h = withFault("thrown", fault);
            h.fails(1, targetOf(fault), fault, culpritOf(fault));
            h.fails(1, targetOf(fault), fault, culpritOf(fault));
            h.due("services throws", h.thrownByServices(1, House.number(targetOf(fault))),
                    House.kindOf(fault));
            h.dueFault(fault, House.number(culpritOf(fault)));
        }
    }

    /** "if k has defined n: that class" */
    private static void definedOnce() {
        House h = withRoot("once");
        h.simple("bA", "aA").archive(0).loader(-1, 0, 1);
        h.loads(0, "bA", 1);
        h.loads(0, "bA", 1);
        h.loads(0, "aA", 0);
        h.loads(0, "bA", 1);
        h.due("type(2, 0)", h.x.type(2, 0), -1);
    }

    /** What k has defined stays, whatever has become of archives, loaders and parents. */
    private static void definedBeforeAllElse() {
        House h = withRoot("before all else");
        h.archive(0).simple("bA", "aA").archive(1).loader(-1, 0, 2).loader(0, 1);
        h.loads(1, "bA", 1);
        h.entry("bA", 0, House.file(9, PUBLIC, "bA", "aA")).archive(2);
        h.loads(1, "bA", 1);
        h.fails(0, "bA", 4, "bA");
        h.due("spoil 1", h.x.spoil(1, 0, 255), true);
        h.loads(1, "bA", 1);
        h.due("close(1)", h.x.close(1), true);
        h.loads(1, "bA", 1);
        h.due("close(0)", h.x.close(0), true);
        h.loads(1, "bA", 1);
        h.fails(0, "bA", 1, "bA");
    }

    /** "If k is about to define n: fault 6." */
    private static void circlesOfAnyLength() {
        for (int n = 1; n <= 5; n++) {
            for (int faces = 0; faces <= 1; faces++) {
                House h = withRoot("a circle of " + n + (faces == 1 ? " interfaces" : ""));
                for (int i = 0; i < n; i++) {
                    String self = "b" + (char) ('A' + i);
                    String next = "b" + (char) ('A' + (i + 1) % n);
                    h.entry(self, 0, faces == 1 ? face(self, next)
                            : House.file(1, PUBLIC, self, next));
                }
                h.archive(0).loader(-1, 0).loader(0);
                for (int i = 0; i < n; i++) {
                    String self = "b" + (char) ('A' + i);
                    h.fails(i % 2, self, 6, self);
                }
                h.due("type(0, 0)", h.x.type(0, 0), faces == 1 ? 0 : -1);
                h.due("type(1, 0)", h.x.type(1, 0), -1);
            }
        }
        House late = withRoot("a circle further on");
        late.simple("bA", "bB").simple("bB", "bC").simple("bC", "bB").archive(0).loader(-1, 0);
        late.fails(0, "bA", 6, "bB");
        House second = withRoot("by the second interface");
        second.entry("bB", 0, face("bB")).simple("bA", "aA", "bB", "bA").archive(0).loader(-1, 0);
        second.fails(0, "bA", 6, "bA");
    }

    /** A loader that had a fault is about to define nothing any more. */
    private static void noCircleBehindOne() {
        House h = withRoot("mended");
        h.simple("bA", "bB").archive(0).simple("bB", "bA").archive(1).simple("bB", "aA");
        h.archive(2).loader(-1, 0, 1, 2);
        h.fails(0, "bA", 6, "bA");
        h.due("archive 1 is not sound", h.x.spoil(1, 0, 1), true);
        h.loads(0, "bA", 2);
        for (int fault = 6; fault <= 9; fault++) {
            House other = withFault("twice", fault);
            other.fails(1, "bA", fault, culpritOf(fault));
            other.fails(1, "bA", fault, culpritOf(fault));
        }
    }

    /** "if it ends with a class or with another fault than 1 or 2, so does this" */
    private static void parentsWithEachFault() {
        for (int fault = 1; fault <= 11; fault++) {
            House h = withFault("the parent", fault);
            h.simple("bA", "aA").archive(3).loader(1, 3);
            if (fault <= 2) {
                h.due("load throws", h.thrownByLoad(2, House.number("bA")), 0);
                h.dueFault(0, -1);
                h.due("its loader", h.x.type(h.latest, 1), 2);
            } else {
                h.fails(2, targetOf(fault), fault, culpritOf(fault));
            }
        }
        House found = withRoot("the parent has it");
        found.simple("bA", "aA").archive(0);
        found.entry("bA", 0, House.file(2, PUBLIC, "bA", "aA")).archive(1).loader(-1, 0);
        found.loader(0, 1);
        found.loads(1, "bA", 1);
        found.due("its version", found.x.type(1, 7), 1);
        found.due("its loader", found.x.type(1, 1), 0);
    }

    /** "Else the first archive of the path that has n is taken; without one: fault 1." */
    private static void theFirstOfThePath() {
        House h = withRoot("the first");
        h.archive(0).simple("bA", "aA").archive(1);
        h.entry("bA", 0, House.file(2, PUBLIC, "bA", "aA")).archive(2);
        h.entry("bA", 0, House.file(3, PUBLIC, "bA", "aA")).archive(3);
        h.loader(-1, 0).loader(0).loader(0, 2, 1).loader(0, 3, 2, 1);
        h.fails(1, "bA", 1, "bA");
        h.due("spoil bA in 2", h.x.spoil(2, 3, 1), true);
        h.fails(2, "bA", 2, "bA");
        h.due("archive 2 is not sound", h.x.spoil(2, 0, 1), true);
        h.loads(2, "bA", 1);
        h.due("its archive", h.x.type(1, 2), 1);
        h.loads(3, "bA", 2);
        h.due("its archive", h.x.type(2, 2), 3);
    }

    /** "from which a class of it was first taken so (also if it could not be defined)" */
    private static void packagesFirstTaken() {
        for (int fault = 1; fault <= 9; fault++) {
            House h = withFault("the first taken", fault);
            h.fails(1, "bA", fault, culpritOf(fault));
            h.simple("bH", "aA").text("M", "Z:b\n").archive(3);
            h.due("append(1, 3)", h.x.append(1, 3), true);
            if (fault == 1) {
                h.due("load throws", h.thrownByLoad(1, House.number("bH")), 0);
            } else {
                h.fails(1, "bH", 10, "bH");
            }
        }
        House refused = withRoot("fault 10 takes nothing");
        refused.simple("bA", "aA").archive(0).simple("bB", "aA").text("M", "Z:b\n").archive(1);
        refused.simple("bC", "aA").archive(2).loader(-1, 0, 1, 2);
        refused.loads(0, "bA", 1);
        refused.fails(0, "bB", 10, "bB");
        refused.loads(0, "bC", 2);
        House ofA = withRoot("package a of another loader");
        ofA.archive(0).simple("aB", "aA").archive(1).simple("aC", "aA").text("M", "Z:a\n");
        ofA.archive(2).loader(-1, 0).loader(0, 1, 2);
        ofA.fails(1, "aB", 11, "aB");
        ofA.fails(1, "aC", 10, "aC");
    }

    /** Loads bA from archive 0, then bB from archive 1, which have these manifests. */
    private static House twoOfB(String first, String second) {
        House h = withRoot("<" + first + "> and <" + second + ">");
        h.simple("bA", "aA").simple("bC", "aA").text("M", first).archive(0);
        h.simple("bB", "aA").text("M", second).archive(1).loader(-1, 0, 1);
        h.loads(0, "bA", 1);
        return h;
    }

    /** "if that is another archive than this, and one of both .. has the package's letter" */
    private static void packagesAndTheirLetters() {
        String[] lines = {"", "Z:\n", "Z:a\n", "Z:acd\n", "Z:b\n", "Z:abcd\n", "Z:d\n b\n",
            "B:b\n"};
        for (String first : lines) {
            for (String second : lines) {
                boolean sealed = seals(first) || seals(second);
                House h = twoOfB(first, second);
                if (sealed) {
                    h.fails(0, "bB", 10, "bB");
                    h.loads(0, "bC", 2);
                } else {
                    h.loads(0, "bB", 2);
                    h.loads(0, "bC", 3);
                }
            }
        }
    }

    private static boolean seals(String lines) {
        return lines.startsWith("Z") && lines.contains("b");
    }

    /** ".. readable now .." */
    private static void packagesReadableNow() {
        House h = twoOfB("Z:b\n", "");
        h.fails(0, "bB", 10, "bB");
        h.due("archive 0 is not sound", h.x.spoil(0, 0, 1), true);
        h.loads(0, "bB", 2);
        House corrupt = twoOfB("Z:b\n", "");
        // The bodies of aA, bA and bC have 10, 10 and 10 bytes.
        corrupt.due("M of archive 0 is corrupt", corrupt.x.spoil(0, 30 + 2 + 2, 1), true);
        corrupt.loads(0, "bB", 2);
        House mended = twoOfB("Z:b\n", "");
        mended.due("spoil", mended.x.spoil(0, 0, 1), true);
        mended.due("mend", mended.x.spoil(0, 0, 1), true);
        mended.fails(0, "bB", 10, "bB");
        House none = twoOfB("Z:b\n", "");
        none.due("the name M", none.x.peek(0, 30 + 6 + 3 * 14 + 1), 'M');
        none.set(0, 30 + 6 + 3 * 14 + 1, 'm');
        none.loads(0, "bB", 2);
    }

    /** A third archive with the letter does not matter: "one of both". */
    private static void packagesOfTwoArchivesOnly() {
        House h = withRoot("three archives");
        h.simple("bA", "aA").archive(0).simple("bB", "aA").text("M", "Z:b\n").archive(1);
        h.simple("bC", "aA").archive(2).loader(-1, 0, 1, 2);
        h.loads(0, "bA", 1);
        h.loads(0, "bC", 2);
        h.fails(0, "bB", 10, "bB");
        House back = withRoot("three archives, the second first");
        back.simple("bA", "aA").archive(0).simple("bB", "aA").text("M", "Z:b\n").archive(1);
        back.simple("bC", "aA").archive(2).loader(-1, 0, 1, 2);
        back.loads(0, "bB", 1);
        back.fails(0, "bA", 10, "bA");
        back.fails(0, "bC", 10, "bC");
    }

    /** "A PACKAGE of k": another loader's classes do not matter. */
    private static void packagesOfEachLoader() {
        House h = withRoot("each loader");
        h.simple("bA", "aA").text("M", "Z:bc\n").archive(0);
        h.simple("bB", "aA").simple("cA", "aA").text("M", "Z:bc\n").archive(1);
        h.loader(-1, 0).loader(0, 1);
        h.loads(1, "bA", 1);
        h.loads(1, "bB", 2);
        h.loads(1, "cA", 3);
        h.due("type(1, 1)", h.x.type(1, 1), 0);
        h.due("type(2, 1)", h.x.type(2, 1), 1);
    }

    /** 10 comes before 2, 2 before 11, 11 before 3. */
    private static void faultsBeforeTheFile() {
        House sealed = twoOfB("Z:b\n", "");
        sealed.due("bB is corrupt", sealed.x.spoil(1, 2, 1), true);
        sealed.fails(0, "bB", 10, "bB");
        House h = withRoot("before the file");
        h.archive(0).text("aB", "x").simple("aC", "aA").archive(1);
        h.simple("aD", "aA").text("M", "Z:a\n").archive(2).loader(-1, 0).loader(0, 1, 2);
        h.fails(1, "aB", 11, "aB");
        h.fails(1, "aD", 10, "aD");
        h.due("aC is corrupt", h.x.spoil(1, 3 + 2, 1), true);
        h.fails(1, "aC", 2, "aC");
        h.due("aD is corrupt", h.x.spoil(2, 2, 1), true);
        h.fails(1, "aD", 10, "aD");
    }

    /** "If the package is a, and k not 0: fault 11." */
    private static void packageAOfLoader0() {
        for (int k = 0; k < 4; k++) {
            House h = withRoot("loader " + k);
            h.archive(0).simple("aB", "aA").simple("aH", "aA").simple("bA", "aA").archive(1);
            for (int i = 0; i < 4; i++) {
                h.loader(i - 1, i == 0 ? new int[] {0} : new int[0]);
            }
            h.due("append(" + k + ", 1)", h.x.append(k, 1), true);
            if (k == 0) {
                h.loads(3, "aB", 1);
                h.loads(0, "aH", 2);
            } else {
                h.fails(k, "aB", 11, "aB");
                h.fails(k, "aH", 11, "aH");
                h.fails(3, "aB", 11, "aB");
                h.fails(k - 1, "aB", 1, "aB");
            }
            h.due("load(" + k + ", bA) throws", h.thrownByLoad(k, House.number("bA")), 0);
        }
    }

    /** "a fault 1 or 2 there becomes a fault 7, others stay", with their culprits */
    private static void partsWithEachFault() {
        for (int fault = 1; fault <= 11; fault++) {
            for (int part = 0; part <= 2; part++) {
                House h = withFault("part " + part, fault);
                String[] names = {"aA", "dF", "dG"};
                names[part] = targetOf(fault);
                h.entry("dF", 0, face("dF")).entry("dG", 0, face("dG"));
                h.simple("dA", names[0], names[1], names[2]).simple("dB", "dA").archive(3);
                h.due("append(1, 3)", h.x.append(1, 3), true);
                int want = fault <= 2 ? 7 : fault;
                h.fails(1, "dA", want, culpritOf(fault));
                h.fails(1, "dB", want, culpritOf(fault));
            }
        }
    }

    /** "in order .. Each is looked at when it is loaded": the first fault is the one. */
    private static void partsOneByOne() {
        House h = withRoot("one by one");
        h.entry("bF", 0, House.file(1, PUBLIC | FINAL, "bF", "aA")).entry("bH", 0,
                face("bH")).simple("bC", "aA").archive(0);
        h.simple("cA", "bF", "dA").simple("cB", "dA", "bC").simple("cC", "aA", "bC", "dA");
        h.simple("cD", "aA", "dB", "bC").simple("cE", "aA", "bH", "dC").archive(1);
        h.simple("cF", "bF", "bC", "dA").archive(2).loader(-1, 0, 1, 2);
        h.fails(0, "cA", 8, "cA");
        h.due("the root and bF are there", h.x.type(1, 0), House.number("bF"));
        h.fails(0, "cB", 7, "dA");
        h.fails(0, "cC", 8, "cC");
        h.due("bC is there", h.x.type(2, 0), House.number("bC"));
        h.fails(0, "cD", 7, "dB");
        h.due("no more", h.x.type(3, 0), -1);
        h.fails(0, "cE", 7, "dC");
        h.due("bH is there", h.x.type(3, 0), House.number("bH"));
        h.fails(0, "cF", 8, "cF");
        h.due("no more", h.x.type(4, 0), -1);
    }

    /** "fault 8 if the super class is FINAL or an INTERFACE, or an interface is none" */
    private static void kindsOfParts() {
        for (int flags = 0; flags <= 5; flags++) {
            boolean asSuper = (flags & (FINAL | INTERFACE)) == 0;
            boolean asFace = (flags & INTERFACE) != 0;
            House h = withRoot("a part with the flags " + flags);
            h.entry("bB", 0, House.file(1, flags, "bB", "aA")).entry("bC", 0, face("bC"));
            h.simple("bD", "bB").simple("bE", "aA", "bB").simple("bF", "aA", "bC", "bB");
            h.archive(0).loader(-1, 0);
            dueLoad(h, "bD", asSuper ? 0 : 8);
            dueLoad(h, "bE", asFace ? 0 : 8);
            dueLoad(h, "bF", asFace ? 0 : 8);
        }
    }

    private static void dueLoad(House h, String name, int fault) {
        if (fault != 0) {
            h.fails(0, name, fault, name);
            return;
        }
        h.due("load(0, " + name + ") throws", h.thrownByLoad(0, House.number(name)), 0);
        h.dueFault(0, -1);
    }

    /** "fault 9 if it is not PUBLIC, but of another package than n, or .. another loader than k" */
    private static void accessToParts() {
        for (int set = 0; set < 16; set++) {
            boolean open = (set & 1) != 0;
            String pack = (set & 2) != 0 ? "b" : "c";
            int loader = (set & 4) != 0 ? 1 : 0;
            boolean asFace = (set & 8) != 0;
            House h = withRoot("public " + open + ", package " + pack + ", loader " + loader
                    + ", interface " + asFace);
            h.archive(0);
            String part = pack + "B";
            int flags = (open ? PUBLIC : 0) | (asFace ? INTERFACE : 0);
            h.entry(part, 0, House.file(1, flags, part, "aA")).archive(1);
            h.entry("bA", 0, asFace ? House.file(1, 0, "bA", "aA", part)
                    : House.file(1, 0, "bA", part)).archive(2);
            h.loader(-1, 0).loader(0, 2);
            h.due("append", h.x.append(loader, 1), true);
            boolean near = pack.equals("b") && loader == 1;
            if (open || near) {
                h.loads(1, "bA", 2);
            } else {
                h.fails(1, "bA", 9, "bA");
            }
        }
    }

    /** "fault 8 ..; then fault 9" */
    private static void kindBeforeAccess() {
        House h = withRoot("8 before 9");
        h.entry("cF", 0, House.file(1, FINAL, "cF", "aA"));
        h.entry("cH", 0, House.file(1, INTERFACE, "cH", "aA"));
        h.entry("cC", 0, House.file(1, 0, "cC", "aA")).archive(0);
        h.simple("bA", "cF").simple("bB", "cH").simple("bC", "aA", "cC").simple("bD", "cC");
        h.simple("bE", "aA", "cH").archive(1).loader(-1, 0, 1);
        h.fails(0, "bA", 8, "bA");
        h.fails(0, "bB", 8, "bB");
        h.fails(0, "bC", 8, "bC");
        h.fails(0, "bD", 9, "bD");
        h.fails(0, "bE", 9, "bE");
    }

    /** "Then n is DEFINED by k: the next class, numbered from 0 on." */
    private static void numbersFrom0On() {
        House h = withRoot("numbers");
        h.entry("bF", 0, face("bF")).entry("bG", 0, face("bG", "bF")).text("bB", "x");
        h.simple("bA", "aA", "bG", "bF").simple("bC", "bA", "bB").archive(0).loader(-1, 0);
        h.fails(0, "bB", 3, "bB");
        h.due("type(0, 0) behind a fault", h.x.type(0, 0), -1);
        h.fails(0, "bC", 3, "bB");
        String[] names = {"aA", "bF", "bG", "bA"};
        for (int k = 0; k < 4; k++) {
            h.due("type(" + k + ", 0)", h.x.type(k, 0), House.number(names[k]));
            h.loads(0, names[k], k);
        }
        h.due("type(4, 0)", h.x.type(4, 0), -1);
    }

    /** Promises 11 and 12: "0 if it had none, or there was none of these"; "NONE without". */
    private static void latestFaultAndCulprit() {
        House h = withRoot("latest");
        h.text("SaA", "x\ncC").archive(0);
        h.dueFault(0, -1);
        h.loader(-1, 0);
        h.dueFault(0, -1);
        h.fails(0, "dH", 1, "dH");
        h.due("other calls change nothing", h.x.put(1, 1) && h.x.append(0, 1) && h.x.finish(1)
                && h.x.spoil(1, 0, 0) && h.x.open(0) == 1 && h.x.close(1), true);
        h.dueFault(1, 31);
        h.due("nor do queries", h.x.peek(0, 0) + h.x.type(0, 0) + h.x.all(0, 'q', 0)
                + h.x.content(0, 0), 75 - 1 - 1 + 202);
        h.dueFault(1, 31);
        h.loads(0, "aA", 0);
        h.fails(0, "aB", 1, "aB");
        h.serves(0, "aA", 1);
        h.nextFails(13, -1);
        h.loads(0, "aA", 0);
        h.dueNext(-1);
        h.fails(0, "aH", 1, "aH");
        h.dueNext(-1);
    }

    /** "(of a fault 7 what was not found)", however far away it is */
    private static void culpritsOfPartsNotFound() {
        House h = withRoot("not found");
        h.simple("bA", "bB").simple("bB", "bC").simple("bC", "bD").simple("bD", "aA", "dH");
        h.archive(0).loader(-1, 0).loader(0);
        String[] names = {"bA", "bB", "bC", "bD"};
        for (String name : names) {
            h.fails(0, name, 7, "dH");
            h.fails(1, name, 7, "dH");
        }
        h.fails(0, "dH", 1, "dH");
        House noRoot = new House(CHECK, "no root");
        noRoot.simple("bA", "aA").archive(0).loader(-1, 0);
        noRoot.fails(0, "aA", 1, "aA");
        noRoot.fails(0, "bA", 7, "aA");
    }

    /** Promise 13: "NONE if there is none such". */
    private static void typesOfClasses() {
        House h = withRoot("types");
        h.entry("bF", 0, face("bF")).entry("bG", 0, face("bG"));
        h.entry("dH", 0, House.file(3, FINAL | PUBLIC, "dH", "bC", "bG", "bF"));
        h.entry("bC", 0, House.file(2, PUBLIC, "bC", "aA", "bF")).archive(3).loader(-1, 3);
        h.loads(0, "dH", 4);
        int[][] want = {{0, 0, 3, -1, -1, -1, 1, 1}, {13, 0, 3, 0, -1, -1, 5, 1},
            {10, 0, 3, 0, 1, -1, 1, 2}, {14, 0, 3, 0, -1, -1, 5, 1}, {31, 0, 3, 2, 3, 1, 3, 3}};
        int[] wrong = {LOWEST, -8, -1, 8, 9, 16, HIGHEST};
        for (int k = 0; k < 5; k++) {
            for (int what = 0; what < 8; what++) {
                h.due("type(" + k + ", " + what + ")", h.x.type(k, what), want[k][what]);
            }
            for (int what : wrong) {
                h.due("type(" + k + ", " + what + ")", h.x.type(k, what), -1);
            }
        }
        int[] none = {LOWEST, -1, 5, 6, 31, 32, 127, 128, HIGHEST, 1 << 29};
        for (int k : none) {
            for (int what = 0; what < 8; what++) {
                h.due("type(" + k + ", " + what + ")", h.x.type(k, what), -1);
            }
        }
    }

    /** "behind other faults classes that were defined before stay" */
    private static void classesStay() {
        House h = withRoot("stay");
        h.entry("bF", 0, face("bF")).simple("bB", "aA").simple("bA", "bB", "bF", "dH").archive(0);
        h.loader(-1, 0, 1);
        h.fails(0, "bA", 7, "dH");
        String[] names = {"aA", "bB", "bF"};
        for (int k = 0; k < 3; k++) {
            h.due("type(" + k + ", 0)", h.x.type(k, 0), House.number(names[k]));
        }
        h.due("type(3, 0)", h.x.type(3, 0), -1);
        h.fails(0, "bA", 7, "dH");
        h.due("type(3, 0) again", h.x.type(3, 0), -1);
        h.entry("dH", 0, face("dH")).archive(1);
        h.loads(0, "bA", 4);
        h.due("its super class", h.x.type(4, 3), 1);
        h.due("its first interface", h.x.type(4, 4), 2);
        h.due("its second interface", h.x.type(4, 5), 3);
    }
}
