/** For each promise of the document ordinary inputs, the edges that it names, and wrong inputs, worked out by hand. */
public final class PromiseTest extends Answers {
    /** What load() answers to a text on a graph with two states, and that a fault changes nothing but faultKind(). */
    private static void loading(String text, int answer, int fault) {
        NetSynthesizer x = graph("0a1");
        write(x, text);
        long before = x.digest();
        due("load of '" + text + "'", x.load(), answer);
        due("faultKind after '" + text + "'", x.faultKind(), fault);
        if (fault != 0) {
            due("digest after '" + text + "'", x.digest(), before);
        } else {
            due("arcs of '" + text + "'", x.count(1), answer);
        }
    }

    public static void main(String[] args) {
        about("promise 1");
        newObject();
        about("promise 2");
        type();
        about("promise 3");
        clearText();
        about("promise 4");
        load();
        about("promise 5");
        faultKind();
        about("promise 6");
        setStates();
        about("promise 7");
        addArc();
        about("promise 8");
        dropArc();
        about("promise 9");
        arc();
        about("promise 10");
        next();
        about("promise 11");
        split();
        about("promise 12");
        repair();
        about("promise 13");
        regions();
        about("promise 14");
        region();
        about("promise 15");
        crosses();
        about("promise 16");
        regionAround();
        about("promise 17");
        separations();
        about("promise 18");
        solver();
        about("promise 19");
        preventer();
        about("promise 20");
        unsolved();
        about("promise 21");
        places();
        about("promise 22");
        place();
        about("promise 23");
        netGraph();
        about("promise 24");
        fits();
        about("promise 25");
        enabled();
        about("promise 26");
        fire();
        about("promise 27");
        restart();
        about("promise 28");
        ifArc();
        about("promise 29");
        ifSplit();
        about("promise 30");
        undo();
        about("promise 31");
        count();
        about("promise 32");
        digest();
        end();
    }

    private static void newObject() {
        due("BAD", NetSynthesizer.BAD, BAD);
        due("STATE", NetSynthesizer.STATE, STATE);
        due("FULL", NetSynthesizer.FULL, FULL);
        due("NONE", NetSynthesizer.NONE, NONE);
        NetSynthesizer x = new NetSynthesizer();
        int[] counts = {1, 0, 0, 1, 0, 0, 0};
        for (int what = 0; what < 7; what++) {
            due("count(" + what + ")", x.count(what), counts[what]);
        }
        due("faultKind()", x.faultKind(), 0);
        due("undo()", x.undo(), STATE);
    }

    private static void type() {
        NetSynthesizer x = new NetSynthesizer();
        due("type(31)", x.type(31), BAD);
        due("type(127)", x.type(127), BAD);
        due("type(-1)", x.type(-1), BAD);
        due("type(least)", x.type(Integer.MIN_VALUE), BAD);
        due("type(32)", x.type(32), 1);
        due("type(126)", x.type(126), 2);
        for (int i = 3; i <= 80; i++) {
            due("type(65)", x.type(65), i);
        }
        due("type(65) when full", x.type(65), FULL);
        due("type(31) when full", x.type(31), BAD);
        due("count(5)", x.count(5), 80);
        due("count(6): no change", x.count(6), 0);
    }

    private static void clearText() {
        NetSynthesizer x = new NetSynthesizer();
        due("clearText()", x.clearText(), 0);
        x.type('0');
        x.type('x');
        due("clearText()", x.clearText(), 2);
        due("count(5)", x.count(5), 0);
        due("load()", x.load(), 0);
        due("clearText()", x.clearText(), 0);
        due("count(6): no change but load", x.count(6), 1);
    }

    private static void load() {
        loading("", 0, 0);
        loading("    ", 0, 0);
        loading("0a0", 1, 0);
        loading("   9h9   0a1 ", 2, 0);
        loading("0a1 1a2 2a3 3a4 4a5 5a6 6a7 7a8 8a9 9a0 0b1 1b2 2b3 3b4 4b5 5b6 6b7 7b8 8b9 9b0", 20, 0);
        loading("a", -10, 1);
        loading("0", -11, 1);
        loading("0a", -12, 1);
        loading("0a1 1", -15, 1);
        loading("0A1", -11, 1);
        loading("0`1", -11, 1);
        loading("0i1", -11, 1);
        loading("0 a1", -11, 1);
        loading("0a 1", -12, 1);
        loading("0aa", -12, 1);
        loading("0a/", -12, 1);
        loading("0a:", -12, 1);
        loading("/a0", -10, 1);
        loading(":a0", -10, 1);
        loading("0a11", -13, 1);
        loading("0a11b2", -13, 1);
        loading("0a1,1b2", -13, 1);
        loading("0a1 0a2", -14, 2);
        loading("0a1  0a1", -15, 2);
        loading("0a1 0a2x", -14, 2);
        loading("0a1 0a", -16, 1);
        loading("0a1 x 0a1", -14, 1);
        NetSynthesizer x = graph(" 2b5 0a1");
        due("count(0)", x.count(0), 6);
        due("arc(0, 0)", x.arc(0, 0), 2);
        due("arc(0, 1)", x.arc(0, 1), 1);
        due("arc(0, 2)", x.arc(0, 2), 5);
        due("arc(1, 0)", x.arc(1, 0), 0);
        due("count(5): the text stays", x.count(5), 8);
        due("load() again", x.load(), 2);
        due("count(6)", x.count(6), 2);
        due("undo()", x.undo(), 1);
        due("undo()", x.undo(), 0);
        due("count(0)", x.count(0), 1);
        x = graph("0a1");
        x.fire(0);
        due("load(): a new run", x.load() + x.count(4), 1);
        due("enabled()", x.enabled(), 1);
        due("count(0) of 8a0", graph("8a0").count(0), 9);
        x = graph("0a5");
        x.clearText();
        x.load();
        due("count(0): one state without items", x.count(0), 1);
        due("count(1)", x.count(1), 0);
    }

    private static void faultKind() {
        NetSynthesizer x = new NetSynthesizer();
        write(x, "0a0 0a0");
        due("faultKind()", x.faultKind(), 0);
        x.load();
        due("faultKind()", x.faultKind(), 2);
        write(x, "0a");
        due("faultKind()", x.faultKind(), 2);
        x.load();
        due("faultKind()", x.faultKind(), 1);
        x.addArc(0, 0, 0);
        x.undo();
        due("faultKind() after undo()", x.faultKind(), 1);
        x.clearText();
        x.load();
        due("faultKind()", x.faultKind(), 0);
        write(x, "?");
        x.load();
        x.undo();
        due("faultKind() stays", x.faultKind(), 1);
    }

    private static void setStates() {
        NetSynthesizer x = new NetSynthesizer();
        due("setStates(0)", x.setStates(0), BAD);
        due("setStates(11)", x.setStates(11), BAD);
        due("setStates(-1)", x.setStates(-1), BAD);
        due("setStates(10)", x.setStates(10), 1);
        due("setStates(10)", x.setStates(10), 10);
        due("count(6)", x.count(6), 2);
        due("count(0)", x.count(0), 10);
        x.addArc(4, 0, 1);
        due("setStates(4)", x.setStates(4), STATE);
        due("setStates(5)", x.setStates(5), 10);
        x.dropArc(0);
        x.addArc(0, 0, 3);
        due("setStates(3)", x.setStates(3), STATE);
        due("setStates(0)", x.setStates(0), BAD);
        due("setStates(4)", x.setStates(4), 5);
        x.fire(0);
        due("count(4)", x.count(4), 1);
        due("setStates(4)", x.setStates(4), 4);
        due("count(4): a new run", x.count(4), 0);
        x.dropArc(0);
        due("setStates(1)", x.setStates(1), 4);
        due("count(0)", x.count(0), 1);
    }

    private static void addArc() {
        NetSynthesizer x = new NetSynthesizer();
        x.setStates(3);
        due("addArc(0, 7, 2)", x.addArc(0, 7, 2), 0);
        due("addArc(3, 0, 0)", x.addArc(3, 0, 0), BAD);
        due("addArc(-1, 0, 0)", x.addArc(-1, 0, 0), BAD);
        due("addArc(0, 8, 0)", x.addArc(0, 8, 0), BAD);
        due("addArc(0, -1, 0)", x.addArc(0, -1, 0), BAD);
        due("addArc(0, 0, 3)", x.addArc(0, 0, 3), BAD);
        due("addArc(0, 0, -1)", x.addArc(0, 0, -1), BAD);
        due("addArc(0, 7, 3)", x.addArc(0, 7, 3), BAD);
        due("addArc(0, 7, 1)", x.addArc(0, 7, 1), STATE);
        due("addArc(2, 7, 2)", x.addArc(2, 7, 2), 1);
        due("arc(1, 2)", x.arc(1, 2), 2);
        due("count(6)", x.count(6), 3);
        due("addArc(1, 7, 0)", x.addArc(1, 7, 0), 2);
        due("addArc(1, 7, 1): it leads to 0", x.addArc(1, 7, 1), STATE);
        x = new NetSynthesizer();
        x.setStates(4);
        for (int i = 0; i < 24; i++) {
            due("addArc", x.addArc(i / 8, i % 8, 3), i);
        }
        due("addArc(3, 0, 0) when full", x.addArc(3, 0, 0), FULL);
        due("addArc(0, 0, 0) when full", x.addArc(0, 0, 0), STATE);
        due("addArc(4, 0, 0) when full", x.addArc(4, 0, 0), BAD);
        due("count(1)", x.count(1), 24);
        x = graph("0a1");
        x.fire(0);
        x.addArc(1, 0, 1);
        due("count(4): a new run", x.count(4), 0);
    }

    private static void dropArc() {
        NetSynthesizer x = graph("0a1 1b2 2c3");
        due("dropArc(3)", x.dropArc(3), BAD);
        due("dropArc(-1)", x.dropArc(-1), BAD);
        x.fire(0);
        due("dropArc(0)", x.dropArc(0), 2);
        due("count(4): a new run", x.count(4), 0);
        due("arc(0, 1)", x.arc(0, 1), 1);
        due("arc(1, 1)", x.arc(1, 1), 2);
        due("arc(2, 1)", x.arc(2, 1), BAD);
        due("dropArc(1)", x.dropArc(1), 1);
        due("arc(0, 0)", x.arc(0, 0), 1);
        due("dropArc(0)", x.dropArc(0), 0);
        due("dropArc(0)", x.dropArc(0), BAD);
        due("count(0): the states stay", x.count(0), 4);
        due("undo()", x.undo(), 4);
        due("arc(0, 1)", x.arc(0, 1), 1);
        x = new NetSynthesizer();
        x.setStates(4);
        for (int i = 0; i < 24; i++) {
            x.addArc(i / 8, i % 8, i % 3);
        }
        due("dropArc(22) of 24", x.dropArc(22), 23);
        due("arc(22, 0)", x.arc(22, 0), 2);
        due("arc(22, 1)", x.arc(22, 1), 7);
        due("arc(22, 2)", x.arc(22, 2), 2);
        due("dropArc(24)", x.dropArc(24), BAD);
        due("dropArc(0)", x.dropArc(0), 22);
        due("arc(21, 2)", x.arc(21, 2), 2);
    }

    private static void arc() {
        NetSynthesizer x = graph("3h2 0a0");
        due("arc(0, 0)", x.arc(0, 0), 3);
        due("arc(0, 1)", x.arc(0, 1), 7);
        due("arc(0, 2)", x.arc(0, 2), 2);
        due("arc(1, 1)", x.arc(1, 1), 0);
        due("arc(2, 0)", x.arc(2, 0), BAD);
        due("arc(-1, 0)", x.arc(-1, 0), BAD);
        due("arc(0, 3)", x.arc(0, 3), BAD);
        due("arc(0, -1)", x.arc(0, -1), BAD);
        due("arc(0, 0) of a new object", new NetSynthesizer().arc(0, 0), BAD);
    }

    private static void next() {
        NetSynthesizer x = graph("0a1 1a0 2h2");
        due("next(0, 0)", x.next(0, 0), 1);
        due("next(1, 0)", x.next(1, 0), 0);
        due("next(2, 7)", x.next(2, 7), 2);
        due("next(2, 0)", x.next(2, 0), NONE);
        due("next(0, 1)", x.next(0, 1), NONE);
        due("next(3, 0)", x.next(3, 0), BAD);
        due("next(-1, 0)", x.next(-1, 0), BAD);
        due("next(0, 8)", x.next(0, 8), BAD);
        due("next(0, -1)", x.next(0, -1), BAD);
    }

    private static void split() {
        NetSynthesizer x = graph("2b0 5b1 3b2 0a1 1d1");
        x.fire(0);
        due("split(8)", x.split(8), BAD);
        due("split(-1)", x.split(-1), BAD);
        due("split(0)", x.split(0), STATE);
        due("split(7)", x.split(7), STATE);
        due("split(1)", x.split(1), 2);
        due("count(4): a new run", x.count(4), 0);
        due("arc(1, 1)", x.arc(1, 1), 2);
        due("arc(0, 1)", x.arc(0, 1), 1);
        due("arc(2, 1)", x.arc(2, 1), 1);
        due("split(1)", x.split(1), 4);
        due("arc(2, 1)", x.arc(2, 1), 4);
        due("split(1)", x.split(1), STATE);
        x = graph("2b0 1b0");
        due("split(1): the smallest event is 0", x.split(1), 0);
        due("arc(0, 1)", x.arc(0, 1), 0);
        due("arc(1, 1)", x.arc(1, 1), 1);
        x = graph("0a1 1b2 2c3 3d4 4e5 5f6 6g7 7h8 8h9");
        due("split(7) when all are used", x.split(7), FULL);
        due("split(0) when all are used", x.split(0), STATE);
        due("split(8) when all are used", x.split(8), BAD);
        due("count(6)", x.count(6), 1);
    }

    private static void repair() {
        NetSynthesizer x = graph(CYCLE);
        x.fire(0);
        due("repair()", x.repair(), 1);
        due("count(4): a new run", x.count(4), 0);
        due("arc(0, 1)", x.arc(0, 1), 0);
        due("arc(1, 1)", x.arc(1, 1), 2);
        due("separations(1, false)", x.separations(1, false), 0);
        due("repair()", x.repair(), 0);
        due("count(6): two changes", x.count(6), 4);
        due("undo()", x.undo(), 3);
        due("undo()", x.undo(), 2);
        due("arc(1, 1)", x.arc(1, 1), 0);
        due("count(4)", x.count(4), 1);
        due("repair() of a new object", new NetSynthesizer().repair(), 0);
        // The arcs get events of their own from the end on, until all events are used.
        x = graph("0a1 1a2 2a3 3a4 4a5 5a6 6a7 7a8 8a9");
        due("repair() of a chain", x.repair(), 7);
        due("count(2)", x.count(2), 8);
        due("arc(8, 1)", x.arc(8, 1), 1);
        due("arc(2, 1)", x.arc(2, 1), 7);
        due("arc(1, 1)", x.arc(1, 1), 0);
        due("separations(1, false): nothing more can be split", x.separations(1, false) > 0 ? 1 : 0, 1);
        due("count(6): one change", x.count(6), 2);
        // c is split, which does not help: its arcs lead from 0 to 2 and back, in the same regions.
        x = graph(SHORTCUT);
        due("repair() of the shortcut", x.repair(), 1);
        due("arc(5, 1)", x.arc(5, 1), 3);
        // b, whose one arc cannot be split, is passed over.
        x = graph("0a1 1a2 2b3");
        due("unsolved(3): the first one of kind 1", x.unsolved(3), 1001);
        due("repair()", x.repair(), 1);
        due("arc(1, 1)", x.arc(1, 1), 2);
        due("arc(2, 1)", x.arc(2, 1), 1);
        x = graph("0b1 1b2");
        due("repair() with the event 0", x.repair(), 1);
        due("arc(1, 1)", x.arc(1, 1), 0);
    }

    private static void regions() {
        NetSynthesizer x = new NetSynthesizer();
        due("regions(false)", x.regions(false), 0);
        due("regions(true)", x.regions(true), 0);
        x.setStates(4);
        due("regions(false)", x.regions(false), 14);
        due("regions(true)", x.regions(true), 4);
        x.setStates(10);
        due("regions(false)", x.regions(false), 1022);
        due("regions(true)", x.regions(true), 10);
        x.addArc(0, 0, 1);
        due("regions(false)", x.regions(false), 1022);
        x.addArc(2, 0, 2);
        due("regions(false): 0 and 1 stay together", x.regions(false), 510);
        due("regions(true)", x.regions(true), 9);
        due("regions(false)", graph(DIAMOND).regions(false), 4);
        due("regions(true)", graph(CYCLE).regions(true), 0);
        due("regions(false)", graph(SHORTCUT).regions(false), 2);
    }

    private static void region() {
        NetSynthesizer x = graph(DIAMOND);
        int[] masks = {3, 5, 10, 12, NONE};
        for (int k = 0; k < 5; k++) {
            due("region(" + k + ", false)", x.region(k, false), masks[k]);
            due("region(" + k + ", true)", x.region(k, true), masks[k]);
        }
        due("region(-1, false)", x.region(-1, false), BAD);
        due("region(-1, true)", x.region(-1, true), BAD);
        due("region(greatest, true)", x.region(Integer.MAX_VALUE, true), NONE);
        x = new NetSynthesizer();
        due("region(0, false)", x.region(0, false), NONE);
        x.setStates(3);
        for (int k = 0; k < 6; k++) {
            due("region(" + k + ", false)", x.region(k, false), k + 1);
        }
        due("region(2, true)", x.region(2, true), 4);
        due("region(3, true)", x.region(3, true), NONE);
        due("region(6, false)", x.region(6, false), NONE);
        x.setStates(10);
        due("region(1021, false)", x.region(1021, false), 1022);
        due("region(1022, false)", x.region(1022, false), NONE);
    }

    private static void crosses() {
        NetSynthesizer x = graph("0a1 2a3 3b3 1c0 3c3");
        due("crosses(5, 0)", x.crosses(5, 0), 2);
        due("crosses(10, 0)", x.crosses(10, 0), 1);
        due("crosses(1, 0): one exits, one does neither", x.crosses(1, 0), 3);
        due("crosses(6, 0): one enters, one exits", x.crosses(6, 0), 3);
        due("crosses(3, 0)", x.crosses(3, 0), 0);
        due("crosses(8, 1): its arc stays", x.crosses(8, 1), 0);
        due("crosses(1, 2): one enters, one stays", x.crosses(1, 2), 3);
        due("crosses(5, 7): not used", x.crosses(5, 7), 0);
        due("crosses(0, 0)", x.crosses(0, 0), 0);
        due("crosses(15, 0)", x.crosses(15, 0), 0);
        due("crosses(16, 0)", x.crosses(16, 0), BAD);
        due("crosses(-1, 0)", x.crosses(-1, 0), BAD);
        due("crosses(0, 8)", x.crosses(0, 8), BAD);
        due("crosses(0, -1)", x.crosses(0, -1), BAD);
    }

    private static void regionAround() {
        NetSynthesizer x = graph(DIAMOND);
        due("regionAround(0)", x.regionAround(0), 3);
        due("regionAround(8)", x.regionAround(8), 10);
        due("regionAround(12)", x.regionAround(12), 12);
        due("regionAround(9)", x.regionAround(9), NONE);
        due("regionAround(15)", x.regionAround(15), NONE);
        due("regionAround(16)", x.regionAround(16), BAD);
        due("regionAround(-1)", x.regionAround(-1), BAD);
        x = new NetSynthesizer();
        due("regionAround(0)", x.regionAround(0), NONE);
        due("regionAround(1)", x.regionAround(1), NONE);
        due("regionAround(2)", x.regionAround(2), BAD);
        // 0 and 1 stay together: of {0,1} (3 of two states) and {2} (4 of one state) the latter is the smallest.
        x = graph("0a1 2a2 3b3");
        due("regionAround(0)", x.regionAround(0), 4);
        due("regionAround(1)", x.regionAround(1), 3);
        due("regionAround(5)", x.regionAround(5), 7);
        due("regionAround(12): not minimal", x.regionAround(12), 12);
        due("regionAround(13)", x.regionAround(13), NONE);
    }

    private static void separations() {
        NetSynthesizer x = graph(DIAMOND);
        due("separations(0, true)", x.separations(0, true), 6);
        due("separations(0, false)", x.separations(0, false), 0);
        due("separations(1, true)", x.separations(1, true), 4);
        due("separations(1, false)", x.separations(1, false), 0);
        due("separations(-1, true)", x.separations(-1, true), BAD);
        due("separations(2, false)", x.separations(2, false), BAD);
        x = graph(SHORTCUT);
        due("separations(0, true)", x.separations(0, true), 4);
        due("separations(0, false)", x.separations(0, false), 2);
        due("separations(1, true)", x.separations(1, true), 4);
        due("separations(1, false)", x.separations(1, false), 2);
        x = new NetSynthesizer();
        due("separations(0, true)", x.separations(0, true), 0);
        due("separations(1, false)", x.separations(1, false), 0);
        x.setStates(10);
        due("separations(0, true)", x.separations(0, true), 45);
        for (int e = 0; e < 8; e++) {
            x.addArc(9, e, 9);
        }
        due("separations(1, false)", x.separations(1, false), 72);
        due("separations(1, true)", x.separations(1, true), 0);
    }

    private static void solver() {
        NetSynthesizer x = graph(DIAMOND);
        due("solver(1, 2)", x.solver(1, 2), 3);
        due("solver(2, 1)", x.solver(2, 1), 3);
        due("solver(0, 1)", x.solver(0, 1), 5);
        due("solver(2, 3)", x.solver(2, 3), 5);
        due("solver(0, 3)", x.solver(0, 3), 3);
        due("solver(1, 1)", x.solver(1, 1), BAD);
        due("solver(4, 0)", x.solver(4, 0), BAD);
        due("solver(0, 4)", x.solver(0, 4), BAD);
        due("solver(-1, 0)", x.solver(-1, 0), BAD);
        due("solver(0, -1)", x.solver(0, -1), BAD);
        x = graph(SHORTCUT);
        due("solver(0, 2)", x.solver(0, 2), NONE);
        due("solver(0, 1)", x.solver(0, 1), 5);
    }

    private static void preventer() {
        NetSynthesizer x = graph(DIAMOND);
        due("preventer(3, 0)", x.preventer(3, 0), 5);
        due("preventer(1, 0)", x.preventer(1, 0), 5);
        due("preventer(3, 1)", x.preventer(3, 1), 3);
        due("preventer(0, 0): enabled", x.preventer(0, 0), STATE);
        due("preventer(0, 2): not used", x.preventer(0, 2), STATE);
        due("preventer(0, 0): enabled, and leads to 0", graph("0a0").preventer(0, 0), STATE);
        due("preventer(4, 0)", x.preventer(4, 0), BAD);
        due("preventer(-1, 0)", x.preventer(-1, 0), BAD);
        due("preventer(0, 8)", x.preventer(0, 8), BAD);
        due("preventer(4, 2)", x.preventer(4, 2), BAD);
        due("preventer(0, -1)", x.preventer(0, -1), BAD);
        x = graph(SHORTCUT);
        due("preventer(1, 2): c exits no region", x.preventer(1, 2), NONE);
        due("preventer(1, 0)", x.preventer(1, 0), 5);
        due("preventer(0, 1)", x.preventer(0, 1), 10);
        x = graph("0a1 1b2");
        due("preventer(0, 1)", x.preventer(0, 1), 2);
        due("preventer(2, 1)", x.preventer(2, 1), 2);
    }

    private static void unsolved() {
        NetSynthesizer x = graph(SHORTCUT);
        int[] codes = {2, 103, 1102, 1302, NONE};
        for (int k = 0; k < 5; k++) {
            due("unsolved(" + k + ")", x.unsolved(k), codes[k]);
        }
        due("unsolved(-1)", x.unsolved(-1), BAD);
        due("unsolved(greatest)", x.unsolved(Integer.MAX_VALUE), NONE);
        due("unsolved(0)", graph(DIAMOND).unsolved(0), NONE);
        x = graph(CYCLE);
        int[] all = {1, 2, 102, 1001, 1101, 1200, NONE};
        for (int k = 0; k < 7; k++) {
            due("unsolved(" + k + ")", x.unsolved(k), all[k]);
        }
        x = graph("9h9");
        due("unsolved(0)", x.unsolved(0), 1007);
        due("unsolved(8)", x.unsolved(8), 1807);
        due("unsolved(9)", x.unsolved(9), NONE);
    }

    private static void places() {
        due("places()", new NetSynthesizer().places(), 0);
        due("places()", graph(DIAMOND).places(), 2);
        due("places()", graph(CYCLE).places(), 0);
        due("places()", graph(SHORTCUT).places(), 2);
        NetSynthesizer x = new NetSynthesizer();
        x.setStates(10);
        due("places()", x.places(), 9);
        // {1} solves seven of all, {0} and {2} six: {0} comes next, and then {2} has nothing left.
        x = graph("0a1 1b2");
        due("places()", x.places(), 2);
        due("place(0, 0)", x.place(0, 0), 1);
        due("place(1, 0)", x.place(1, 0), 2);
        // The region 25 came third, but those that came after it left it nothing to do.
        x = graph("3f0 2b1 3e2 5f2 4b3 3c4");
        int[] regions = {42, 52, 11, 21, 56};
        due("places()", x.places(), 5);
        for (int p = 0; p < 5; p++) {
            due("place(" + p + ", 0)", x.place(p, 0), regions[p]);
        }
        // Here the first one, 50, is redundant.
        x = graph("3a6 5b0 2c4 3c1 4a5");
        due("places()", x.places(), 4);
        due("place(0, 0)", x.place(0, 0), 30);
        // With a chain each state but the last one needs its own.
        x = graph("0a1 1b2 2c3 3d4");
        due("places()", x.places(), 4);
        due("place(3, 0)", x.place(3, 0), 8);
    }

    private static void place() {
        NetSynthesizer x = graph(DIAMOND);
        due("place(0, 0)", x.place(0, 0), 3);
        due("place(0, 1)", x.place(0, 1), 2);
        due("place(0, 2)", x.place(0, 2), 0);
        due("place(0, 3)", x.place(0, 3), 1);
        // {0,1} alone: the pairs 02 and 13, and b in 2 and 3.
        due("place(0, 4)", x.place(0, 4), 4);
        due("place(1, 0)", x.place(1, 0), 5);
        due("place(1, 1)", x.place(1, 1), 1);
        due("place(1, 4)", x.place(1, 4), 4);
        x.fire(0);
        due("place(0, 3)", x.place(0, 3), 1);
        due("place(1, 3)", x.place(1, 3), 0);
        due("place(2, 0)", x.place(2, 0), BAD);
        due("place(-1, 0)", x.place(-1, 0), BAD);
        due("place(0, 5)", x.place(0, 5), BAD);
        due("place(0, -1)", x.place(0, -1), BAD);
        x = graph(SHORTCUT);
        due("place(0, 1)", x.place(0, 1), 1);
        due("place(0, 2)", x.place(0, 2), 2);
        due("place(1, 0)", x.place(1, 0), 10);
        due("place(1, 3)", x.place(1, 3), 0);
        due("place(1, 4): b in 0 and 2", x.place(1, 4), 2);
        due("place(0, 0) of a new object", new NetSynthesizer().place(0, 0), BAD);
        due("place(0, 5) of a new object", new NetSynthesizer().place(0, 5), BAD);
    }

    private static void netGraph() {
        NetSynthesizer x = graph(DIAMOND);
        due("netGraph(0)", x.netGraph(0), 4);
        due("netGraph(1)", x.netGraph(1), 4);
        due("netGraph(2)", x.netGraph(2), 1);
        due("netGraph(3)", x.netGraph(3), BAD);
        due("netGraph(-1)", x.netGraph(-1), BAD);
        x = graph(SHORTCUT);
        due("netGraph(0)", x.netGraph(0), 2);
        due("netGraph(1): a, b, and c in both", x.netGraph(1), 4);
        due("netGraph(2)", x.netGraph(2), 0);
        x = graph(CYCLE);
        due("netGraph(0)", x.netGraph(0), 1);
        due("netGraph(1)", x.netGraph(1), 2);
        x = new NetSynthesizer();
        due("netGraph(0)", x.netGraph(0), 1);
        due("netGraph(1)", x.netGraph(1), 0);
        due("netGraph(2)", x.netGraph(2), 1);
        // A net with far more markings than the graph has states.
        x = graph("2c8 9c5 9a3 1h3 6g0 0a1 3d7 8a6 7a4 7e2");
        due("netGraph(0)", x.netGraph(0), 30);
        due("fits()", x.fits(), 0);
    }

    private static void fits() {
        due("fits()", new NetSynthesizer().fits(), 1);
        due("fits()", graph(DIAMOND).fits(), 1);
        due("fits()", graph(CYCLE).fits(), 0);
        due("fits()", graph(SHORTCUT).fits(), 0);
        due("fits(): the states 2 and 3 are not reachable", graph("0a1 2b3").fits(), 1);
        due("fits(): a cycle", graph("0a1 1b0").fits(), 1);
        due("fits(): 0 and 1 are not separated", graph("0a1 2a2").fits(), 0);
        // a can occur in the marking of 1, as a stays in each region, but it is not enabled there.
        due("fits(): an arc too many", graph("0a0 0b1").fits(), 0);
        NetSynthesizer x = graph(DIAMOND);
        x.fire(0);
        due("fits(): the run is no matter", x.fits(), 1);
        x.dropArc(3);
        // Each region that a exits has the state 2 in it.
        due("fits(): an arc is missing", x.fits(), 0);
    }

    private static void enabled() {
        NetSynthesizer x = new NetSynthesizer();
        due("enabled()", x.enabled(), 0);
        x = graph(DIAMOND);
        due("enabled()", x.enabled(), 3);
        x.fire(1);
        due("enabled()", x.enabled(), 1);
        x.fire(0);
        due("enabled()", x.enabled(), 0);
        x.undo();
        due("enabled()", x.enabled(), 1);
        due("enabled(): without places", graph(CYCLE).enabled(), 3);
        due("enabled()", graph("1a0 0h1").enabled(), 128);
    }

    private static void fire() {
        NetSynthesizer x = graph(DIAMOND);
        due("fire(8)", x.fire(8), BAD);
        due("fire(-1)", x.fire(-1), BAD);
        due("fire(2): not used", x.fire(2), STATE);
        due("fire(0)", x.fire(0), 1);
        due("fire(0) again", x.fire(0), STATE);
        due("count(4)", x.count(4), 1);
        due("count(6)", x.count(6), 2);
        due("fire(1)", x.fire(1), 0);
        due("count(4)", x.count(4), 2);
        due("undo()", x.undo(), 2);
        due("count(4)", x.count(4), 1);
        due("place(0, 3)", x.place(0, 3), 1);
        due("place(1, 3)", x.place(1, 3), 0);
        x = graph(CYCLE);
        due("fire(0): without places", x.fire(0), 0);
        due("fire(0): without places", x.fire(0), 0);
        due("count(4)", x.count(4), 2);
    }

    private static void restart() {
        NetSynthesizer x = graph(DIAMOND);
        due("restart()", x.restart(), 0);
        due("count(6)", x.count(6), 2);
        x.fire(0);
        x.fire(1);
        due("restart()", x.restart(), 2);
        due("count(4)", x.count(4), 0);
        due("enabled()", x.enabled(), 3);
        due("place(0, 3)", x.place(0, 3), 1);
        due("undo()", x.undo(), 4);
        due("count(4)", x.count(4), 2);
        due("enabled()", x.enabled(), 0);
        due("restart() of a new object", new NetSynthesizer().restart(), 0);
    }

    private static void ifArc() {
        NetSynthesizer x = graph("0a1 1a2");
        long before = x.digest();
        due("ifArc(2, 1, 0): the cycle", x.ifArc(2, 1, 0), 6);
        due("ifArc(0, 0, 2)", x.ifArc(0, 0, 2), STATE);
        due("ifArc(3, 0, 0)", x.ifArc(3, 0, 0), BAD);
        due("ifArc(0, 8, 0)", x.ifArc(0, 8, 0), BAD);
        due("ifArc(0, 0, 3)", x.ifArc(0, 0, 3), BAD);
        due("ifArc(0, 0, -1)", x.ifArc(0, 0, -1), BAD);
        due("digest(): nothing changes", x.digest(), before);
        due("unsolved(0)", x.unsolved(0), 1);
        x.setStates(4);
        x.dropArc(1);
        due("ifArc(1, 0, 1): 0 and 1, and a in 2 and 3", x.ifArc(1, 0, 1), 3);
        x = graph("0a1 0b2 1b3");
        due("ifArc(2, 0, 3): the diamond", x.ifArc(2, 0, 3), 0);
        due("count(1)", x.count(1), 3);
        x = new NetSynthesizer();
        x.setStates(4);
        for (int i = 0; i < 24; i++) {
            x.addArc(i / 8, i % 8, 3);
        }
        due("ifArc(3, 0, 0) when full", x.ifArc(3, 0, 0), FULL);
        due("ifArc(0, 0, 0) when full", x.ifArc(0, 0, 0), STATE);
    }

    private static void ifSplit() {
        NetSynthesizer x = graph(CYCLE);
        x.fire(0);
        long before = x.digest();
        due("ifSplit(0)", x.ifSplit(0), 0);
        due("ifSplit(1)", x.ifSplit(1), STATE);
        due("ifSplit(2)", x.ifSplit(2), STATE);
        due("ifSplit(8)", x.ifSplit(8), BAD);
        due("ifSplit(-1)", x.ifSplit(-1), BAD);
        due("digest(): nothing changes", x.digest(), before);
        x = graph(SHORTCUT);
        // 02 and 13 as before; c and d, neither of which exits a region, in three states each.
        due("ifSplit(2)", x.ifSplit(2), 8);
        // 02 and 13; a in 2, and the new event in 0, as both exit {0,2}; c in 1 and 3.
        due("ifSplit(0)", x.ifSplit(0), 6);
        due("ifSplit(7) when all are used", graph("0a1 1b2 2c3 3d4 4e5 5f6 6g7 7h8 8h9").ifSplit(7), FULL);
    }

    private static void undo() {
        NetSynthesizer x = new NetSynthesizer();
        due("undo()", x.undo(), STATE);
        for (int i = 2; i <= 10; i++) {
            x.setStates(i);
        }
        due("count(6): at most 8", x.count(6), 8);
        for (int left = 7; left >= 0; left--) {
            due("undo()", x.undo(), left);
            due("count(0)", x.count(0), left + 2);
        }
        due("undo()", x.undo(), STATE);
        due("count(0): the oldest was dropped", x.count(0), 2);
        due("regions(false)", x.regions(false), 2);
        x.setStates(3);
        due("regions(false)", x.regions(false), 6);
        x.undo();
        due("regions(false) after undo()", x.regions(false), 2);
        x = graph(DIAMOND);
        x.fire(0);
        long before = x.digest();
        x.restart();
        x.undo();
        due("digest()", x.digest(), before);
        x.dropArc(1);
        x.undo();
        due("digest() with the run", x.digest(), before);
        x.repair();
        x.undo();
        due("digest()", x.digest(), before);
        x.type('x');
        x.load();
        due("undo(): a failed load is no change", x.undo(), 1);
        due("enabled()", x.enabled(), 3);
        due("count(5): the text stays", x.count(5), 16);
        due("undo()", x.undo(), 0);
        due("count(1)", x.count(1), 0);
    }

    private static void count() {
        NetSynthesizer x = graph("0c1 1c0 3h4 6c0");
        x.fire(2);
        int[] counts = {7, 4, 2, 2, 1, 15, 2, BAD};
        for (int what = 0; what < 8; what++) {
            due("count(" + what + ")", x.count(what), counts[what]);
        }
        due("count(-1)", x.count(-1), BAD);
        // The chain is told backwards, so that one look at the arcs does not reach all.
        due("count(3)", graph("8a9 7a8 6a7 5a6 4a5 3a4 2a3 1a2 0a1").count(3), 10);
    }

    private static void digest() {
        // counts; no arcs; no regions; no separations; none unsolved; no places; one dead marking; it fits; none enabled
        due("digest()", new NetSynthesizer().digest(), sum(1, 0, 0, 1, 0, 0, 0, 0, 0, 0, 0, 0, 0, 0, 1, 0, 1, 1, 0));
        NetSynthesizer x = graph(SHORTCUT);
        x.fire(0);
        due("digest()", x.digest(), sum(4, 6, 3, 4, 1, 23, 2,
            0, 0, 1, 1, 1, 2, 2, 0, 3, 3, 1, 0, 0, 2, 2, 2, 2, 0,
            2, 2, 5, 10, 4, 2, 4, 2, 2, 103, 1102, 1302,
            2, 5, 1, 2, 0, 2, 10, 2, 1, 1, 2,
            2, 4, 0, 0, 2 + 4));
        x = new NetSynthesizer();
        x.setStates(3);
        // The places are {0} and {1}, of which either solves alone that pair with {2} that the other one does not.
        due("digest()", x.digest(), sum(3, 0, 0, 1, 0, 0, 1,
            6, 3, 1, 2, 4, 3, 0, 0, 0,
            2, 1, 0, 0, 1, 1, 2, 0, 0, 0, 1,
            1, 0, 1, 1, 0));
    }
}
