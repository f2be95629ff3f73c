import java.util.ArrayList;
import java.util.List;

/**
 * A test for each sentence of the sections 'Promise 1' to 'Promise 32' that names a boundary case. The sentence
 * stands in the test; the answers are worked out from it by hand.
 */
public final class BoundaryTest extends Sentences {
    // Numbers that are never in range.
    private static final int[] WILD = {Integer.MIN_VALUE, Integer.MIN_VALUE + 1, -1025, -100, -9, -8, -2, -1, 1024,
        1056, 65536, 1 << 30, Integer.MAX_VALUE - 1, Integer.MAX_VALUE};
    // Pairs of states with equal sums in each region: 4 and 6, 3 and 5, 0 and 2.
    private static final String THREE_PAIRS = "2b4 6a5 3a4 6b0";

    interface Take {
        long on(NetSynthesizer x, int argument);
    }

    public static void main(String[] args) {
        newObject();
        type();
        clearText();
        load();
        faultKind();
        setStates();
        addArc();
        dropArc();
        arc();
        next();
        split();
        repair();
        regions();
        region();
        crosses();
        regionAround();
        separations();
        solver();
        preventer();
        unsolved();
        places();
        place();
        netGraph();
        fits();
        enabled();
        fire();
        restart();
        ifArc();
        ifSplit();
        undo();
        count();
        digest();
        endWith(args);
    }

    /** BAD is due for all wild numbers and those given, on a lively object and on a new one, and nothing changes. */
    private static void bad(String what, Take take, int... more) {
        for (int argument : WILD) {
            due(what + " of a new object with " + argument, take.on(new NetSynthesizer(), argument), BAD);
            silent(what + " with " + argument, Answers::lively, x -> take.on(x, argument), BAD);
        }
        for (int argument : more) {
            silent(what + " with " + argument, Answers::lively, x -> take.on(x, argument), BAD);
        }
    }

    private static void newObject() {
        sentence("Creates a synthesizer with one state and no arcs, and an empty text buffer; there are no remembered "
            + "states.");
        NetSynthesizer x = new NetSynthesizer();
        int[] counts = {1, 0, 0, 1, 0, 0, 0};
        for (int what = 0; what < 7; what++) {
            due("count(" + what + ")", x.count(what), counts[what]);
        }
        due("arc(0, 0)", x.arc(0, 0), BAD);
        due("undo()", x.undo(), STATE);
        due("load()", x.load(), 0);
        NetSynthesizer y = new NetSynthesizer();
        x.type('0');
        x.setStates(7);
        due("count(0) of another object", y.count(0), 1);
        due("count(5) of another object", y.count(5), 0);
        due("count(6) of another object", y.count(6), 0);
    }

    private static void type() {
        sentence("Returns how many characters the text buffer has then; BAD if code is out of range; FULL if it has "
            + "80.");
        NetSynthesizer x = new NetSynthesizer();
        for (int code = 32; code <= 111; code++) {
            due("type(" + code + ")", x.type(code), code - 31);
        }
        due("type(112)", x.type(112), FULL);
        due("type(126)", x.type(126), FULL);
        due("type(127)", x.type(127), BAD);
        due("type(31)", x.type(31), BAD);
        x.clearText();
        for (int code = 112; code <= 126; code++) {
            due("type(" + code + ")", x.type(code), code - 111);
        }
        bad("type", (y, a) -> y.type(a), 0, 9, 10, 31, 127, 128, 160, 255, 256 + 48);
        x = graph(DIAMOND);
        x.fire(0);
        x.type('x');
        due("count(4): no change", x.count(4), 1);
        due("count(6): no change", x.count(6), 2);
    }

    private static void clearText() {
        sentence("Returns how many characters it had.");
        NetSynthesizer x = new NetSynthesizer();
        due("clearText() when empty", x.clearText(), 0);
        for (int i = 0; i < 80; i++) {
            x.type('0');
        }
        due("clearText() when full", x.clearText(), 80);
        due("clearText() again", x.clearText(), 0);
        due("type(48) then", x.type('0'), 1);
        due("clearText() of one character", x.clearText(), 1);
        due("load() of what is empty again", x.load(), 0);
        x = graph(DIAMOND);
        x.fire(0);
        x.clearText();
        due("count(1): the state graph stays", x.count(1), 4);
        due("count(4): no change", x.count(4), 1);
        due("count(6): no change", x.count(6), 2);
    }

    private static void load() {
        sentence("Reads the text buffer, which stays, as a state graph, which replaces the present one. (Without items "
            + "it has one state.) This is a change.");
        NetSynthesizer x = graph("0a1 1b2");
        due("count(5)", x.count(5), 7);
        due("load() of the same text", x.load(), 2);
        x.type(' ');
        x.type('0');
        x.type('c');
        x.type('0');
        due("load() of the text with more", x.load(), 3);
        write(x, "0h1");
        due("load() of another text", x.load(), 1);
        due("count(0): the present one is replaced", x.count(0), 2);
        due("count(2): the present one is replaced", x.count(2), 1);
        due("next(0, 0): the present one is replaced", x.next(0, 0), NONE);
        x.clearText();
        due("load() without items", x.load(), 0);
        due("count(0) without items", x.count(0), 1);
        due("count(1) without items", x.count(1), 0);
        due("count(6): five changes", x.count(6), 5);
        x.setStates(10);
        write(x, "   ");
        due("load() of spaces", x.load(), 0);
        due("count(0) of spaces", x.count(0), 1);

        oneAfterTheOther();

        sentence("Returns the number of items; -10 minus the position of the fault if there is one (then nothing but "
            + "what faultKind() returns is changed).");
        due("load() with one item", loaded("9a9"), 1);
        due("load() with twenty", loaded("0a1 0b1 0c1 0d1 0e1 0f1 0g1 0h1 1a1 1b1 1c1 1d1 1e1 1f1 1g1 1h1 2a1 2b1 "
            + "2c1 2d1"), 20);
        due("load() with a fault at 0", loaded("x"), -10);
        due("load() with a fault at 79", loaded(" ".repeat(79) + "x"), -89);
        due("load() with a fault at 80", loaded(" ".repeat(79) + "0"), -90);
        x = lively();
        due("load() with a fault", x.load(), -14);
        due("count(0)", x.count(0), 4);
        due("count(1)", x.count(1), 5);
        due("count(4)", x.count(4), 1);
        due("count(5)", x.count(5), 7);
        due("count(6)", x.count(6), 3);
    }

    /** Graphs that were loaded one after the other into one object answer as each does in an object of its own. */
    private static void oneAfterTheOther() {
        String all = "0a1 0b1 0c1 0d1 0e1 0f1 0g1 0h1 9a2";
        String[] texts = {all, CYCLE, all, "0a1 1a2 2a3 3a4 4a5 5a6 6a7 7a8 8a9 0b0 0c0 0d0 0e0 0f0 0g0 0h0", all,
            THREE_PAIRS, "", DIAMOND, "2a1 1b0", SHORTCUT, "1a3 2c1 3c4 3b0 5b2", "0h1", "1h0", "3a6 5b0 2c4 3c1 4a5"};
        for (String before : texts) {
            for (String text : texts) {
                NetSynthesizer x = graph(before);
                x.digest();
                write(x, text);
                x.load();
                NetSynthesizer y = graph(text);
                y.load();
                due("all of '" + text + "' after '" + before + "'", answers(x).equals(answers(y)) ? 1 : 0, 1);
                x.undo();
                y = graph(before);
                write(y, text);
                due("all of '" + before + "' again", answers(x).equals(answers(y)) ? 1 : 0, 1);
            }
        }
    }

    /** What the methods answer that change nothing. */
    private static List<Long> answers(NetSynthesizer x) {
        List<Long> answers = new ArrayList<>();
        answers.add(x.digest());
        for (int s = 0; s < 10; s++) {
            answers.add((long) x.regionAround(1 << s));
            for (int other = 0; other < 10; other++) {
                answers.add((long) x.solver(s, other));
                answers.add((long) x.preventer(s, other));
                answers.add((long) x.next(s, other));
            }
        }
        return answers;
    }

    private static int loaded(String text) {
        NetSynthesizer x = new NetSynthesizer();
        write(x, text);
        return x.load();
    }

    private static void faultKind() {
        sentence("Returns 1 or 2; 0 if it found none, or there was no such call.");
        NetSynthesizer x = new NetSynthesizer();
        due("faultKind() without a load()", x.faultKind(), 0);
        write(x, "0a0 0a0");
        due("faultKind() before load()", x.faultKind(), 0);
        x.load();
        due("faultKind()", x.faultKind(), 2);
        x.clearText();
        due("faultKind() after clearText()", x.faultKind(), 2);
        x.type('0');
        x.setStates(2);
        x.restart();
        x.repair();
        due("faultKind() after other calls", x.faultKind(), 2);
        x.load();
        due("faultKind() of the latest", x.faultKind(), 1);
        x.clearText();
        x.load();
        due("faultKind() when it found none", x.faultKind(), 0);
        x.undo();
        due("faultKind() after undo()", x.faultKind(), 0);
    }

    private static void setStates() {
        sentence("Returns the number before; BAD if n is out of range; STATE if there is an arc from or to a state "
            + "that there would not be any more.");
        NetSynthesizer x = new NetSynthesizer();
        due("setStates(1) of one", x.setStates(1), 1);
        for (int n = 2; n <= 10; n++) {
            due("setStates(" + n + ")", x.setStates(n), n - 1);
        }
        due("setStates(10) of ten", x.setStates(10), 10);
        due("setStates(1)", x.setStates(1), 10);
        bad("setStates", (y, a) -> y.setStates(a), 0, 11, 12);
        for (int s = 0; s <= 9; s++) {
            boundToState(s, 0);
            boundToState(0, s);
            boundToState(s, s);
        }
        x = graph("9a0");
        x.dropArc(0);
        due("setStates(1) when the arc is gone", x.setStates(1), 10);
    }

    /** With an arc between two states there must be as many as the greater one and 1. */
    private static void boundToState(int from, int to) {
        NetSynthesizer x = new NetSynthesizer();
        int least = Math.max(from, to) + 1;
        x.setStates(10);
        x.addArc(from, 0, to);
        String what = " with an arc from " + from + " to " + to;
        due("setStates(" + (least - 1) + ")" + what, x.setStates(least - 1), least == 1 ? BAD : STATE);
        due("setStates(" + least + ")" + what, x.setStates(least), 10);
    }

    private static void addArc() {
        sentence("Returns its number, which is the number of arcs before; BAD if there is no state from or to, or "
            + "event is out of range; STATE if event is enabled in from; FULL if there are 24 arcs.");
        NetSynthesizer x = new NetSynthesizer();
        x.setStates(10);
        for (int i = 0; i < 24; i++) {
            due("addArc as number " + i, x.addArc(9 - i / 8, 7 - i % 8, i % 10), i);
            due("next to arc " + i, x.next(9 - i / 8, 7 - i % 8), i % 10);
        }
        due("addArc when there are 24", x.addArc(0, 0, 0), FULL);
        due("addArc when there are 24, and it is enabled", x.addArc(7, 0, 0), STATE);
        due("addArc when there are 24, and there is no state", x.addArc(7, 0, 10), BAD);
        x.dropArc(3);
        due("addArc when there are 23", x.addArc(0, 0, 0), 23);
        bad("addArc(?, 3, 0)", (y, a) -> y.addArc(a, 3, 0), 4, 5, 9, 10);
        bad("addArc(0, ?, 0)", (y, a) -> y.addArc(0, a, 0), 8, 9, 32);
        bad("addArc(0, 3, ?)", (y, a) -> y.addArc(0, 3, a), 4, 5, 9, 10);
        due("addArc(3, 7, 0)", lively().addArc(3, 7, 0), 5);
        due("addArc(0, 0, 3): enabled", lively().addArc(0, 0, 3), STATE);
        due("addArc(0, 0, 4): enabled, and no state", lively().addArc(0, 0, 4), BAD);
    }

    private static void dropArc() {
        sentence("Removes an arc. The numbers of the arcs behind it become smaller by 1.");
        int[][] left = {{1, 2, 3}, {0, 2, 3}, {0, 1, 3}, {0, 1, 2}};
        for (int dropped = 0; dropped < 4; dropped++) {
            NetSynthesizer x = graph("0e1 1f2 2g3 3h4");
            due("dropArc(" + dropped + ")", x.dropArc(dropped), 3);
            for (int i = 0; i < 3; i++) {
                String what = "arc " + i + " without " + dropped + ": ";
                due(what + "from", x.arc(i, 0), left[dropped][i]);
                due(what + "event", x.arc(i, 1), left[dropped][i] + 4);
                due(what + "to", x.arc(i, 2), left[dropped][i] + 1);
            }
            due("arc(3, 0)", x.arc(3, 0), BAD);
            due("count(0)", x.count(0), 5);
        }

        sentence("Returns how many arcs are left; BAD if there is no such arc.");
        NetSynthesizer x = crowd(4, 24);
        due("dropArc(24)", x.dropArc(24), BAD);
        due("dropArc(23)", x.dropArc(23), 23);
        due("dropArc(23) again", x.dropArc(23), BAD);
        for (int i = 22; i >= 0; i--) {
            due("dropArc(0)", x.dropArc(0), i);
        }
        due("dropArc(0) without arcs", x.dropArc(0), BAD);
        bad("dropArc", (y, a) -> y.dropArc(a), 5, 6, 23, 24);
    }

    private static void arc() {
        sentence("Returns the part; BAD if there is no such arc or what is out of range.");
        NetSynthesizer x = graph("9h8 0a7");
        int[] parts = {9, 7, 8, 0, 0, 7};
        for (int i = 0; i < 6; i++) {
            due("arc(" + i / 3 + ", " + i % 3 + ")", x.arc(i / 3, i % 3), parts[i]);
        }
        bad("arc(?, 0)", (y, a) -> y.arc(a, 0), 5, 6, 23, 24);
        bad("arc(0, ?)", (y, a) -> y.arc(0, a), 3, 4);
        due("arc(5, 3)", lively().arc(5, 3), BAD);
    }

    private static void next() {
        sentence("Returns the state; NONE if the event is not enabled in this state; BAD if there is no such state or "
            + "event is out of range.");
        NetSynthesizer x = graph("0a9 9h0 4d4");
        due("next(0, 0)", x.next(0, 0), 9);
        due("next(9, 7)", x.next(9, 7), 0);
        due("next(4, 3)", x.next(4, 3), 4);
        due("next(9, 0): only against the arc", x.next(9, 0), NONE);
        due("next(5, 5): not used", x.next(5, 5), NONE);
        bad("next(?, 0)", (y, a) -> y.next(a, 0), 4, 9, 10);
        bad("next(0, ?)", (y, a) -> y.next(0, a), 8, 9, 31, 32);
    }

    private static void split() {
        sentence("the arc with this event that goes from the state with the greatest number gets the smallest event "
            + "that is not used.");
        // The arc is neither the first one nor the last one, nor the one that goes to the greatest state.
        NetSynthesizer x = graph("3a9 7a0 5a1 0b0 9d9");
        due("split(0): c is the smallest", x.split(0), 2);
        due("arc(1, 1)", x.arc(1, 1), 2);
        due("arc(0, 1)", x.arc(0, 1), 0);
        due("arc(2, 1)", x.arc(2, 1), 0);
        due("arc(1, 0): from stays", x.arc(1, 0), 7);
        due("arc(1, 2): to stays", x.arc(1, 2), 0);
        due("split(0): e is the smallest then", x.split(0), 4);
        due("arc(2, 1)", x.arc(2, 1), 4);
        due("split(7): a is the smallest", graph("0h0 1h1").split(7), 0);
        x = graph("0a0 1a1 2a2");
        x.dropArc(2);
        due("split(0) without an arc that was dropped", x.split(0), 1);
        due("arc(1, 1)", x.arc(1, 1), 1);

        sentence("Returns the new event; BAD if event is out of range; STATE if there are fewer than two arcs with it; "
            + "FULL if all events are used.");
        x = graph("0b0 1b1 2c2 3d3 4e4 5f5 6g6 7h7");
        due("split(0): no arc", x.split(0), STATE);
        due("split(2): one arc", x.split(2), STATE);
        due("split(1): two arcs, and one event is left", x.split(1), 0);
        due("split(1): one arc, and no event is left", x.split(1), STATE);
        x.addArc(2, 1, 2);
        due("split(1): two arcs, and no event is left", x.split(1), FULL);
        due("split(8): no event is left", x.split(8), BAD);
        bad("split", (y, a) -> y.split(a), 8, 9, 32);
    }

    private static void repair() {
        sentence("the first separation of kind 1 that is not solvable, and whose event can be split, is taken, and its "
            + "event is split; then again, until there is no such separation. This is one change.");
        // Nothing is a region. The first one is (0,a): the arc 3a4 becomes c; a cannot be split any more,
        // and {0,1,2} is one state for all regions, so that b, which crosses none, is next: 1b2 becomes d.
        NetSynthesizer x = graph("0b1 1b2 2a3 3a4");
        due("unsolved(10)", x.unsolved(10), 1000);
        due("repair()", x.repair(), 2);
        due("arc(3, 1)", x.arc(3, 1), 2);
        due("arc(1, 1)", x.arc(1, 1), 3);
        due("separations(1, false)", x.separations(1, false), 0);
        due("count(6)", x.count(6), 2);
        due("undo(): one change", x.undo(), 1);
        due("arc(3, 1) after undo()", x.arc(3, 1), 0);
        due("arc(1, 1) after undo()", x.arc(1, 1), 1);
        // Here the first one is (0,b), as a is enabled in 0.
        x = graph("0a1 1a2 2b3 3b4");
        due("unsolved(10)", x.unsolved(10), 1001);
        due("repair()", x.repair(), 2);
        due("arc(3, 1)", x.arc(3, 1), 2);
        due("arc(1, 1)", x.arc(1, 1), 3);
        // (0,b) is the first one, but b has one arc only; then (2,a) is taken.
        x = graph(CYCLE);
        due("unsolved(3)", x.unsolved(3), 1001);
        due("repair() of the cycle", x.repair(), 1);
        due("arc(1, 1) of the cycle", x.arc(1, 1), 2);
        due("arc(2, 1) of the cycle", x.arc(2, 1), 1);
        // All events are used: none is split, though no separation of kind 1 is solvable.
        x = graph("0a0 1a0 1b1 2c2 3d3 4e4 5f5 6g6 7h7");
        due("repair() without an event that is left", x.repair(), 0);
        due("count(6) without a split", x.count(6), 2);
        // Only separations of kind 0 are not solvable.
        x = graph("0a1 1a1");
        due("separations(0, false)", x.separations(0, false), 1);
        due("repair() without separations of kind 1", x.repair(), 0);

        sentence("Returns how often an event was split (possibly 0).");
        due("repair() of a new object", new NetSynthesizer().repair(), 0);
        due("repair() of the diamond", graph(DIAMOND).repair(), 0);
        due("repair() of a chain", graph("0a1 1a2 2a3 3a4 4a5 5a6 6a7 7a8 8a9").repair(), 7);
        due("repair() of a repaired graph", x.repair(), 0);
    }

    private static void regions() {
        sentence("whether only minimal regions are counted");
        NetSynthesizer x = new NetSynthesizer();
        due("regions(false) of one state", x.regions(false), 0);
        due("regions(true) of one state", x.regions(true), 0);
        x.setStates(2);
        due("regions(false) of two", x.regions(false), 2);
        due("regions(true) of two", x.regions(true), 2);
        x.setStates(10);
        due("regions(false) of ten", x.regions(false), 1022);
        due("regions(true) of ten", x.regions(true), 10);
        x = graph(THREE_PAIRS);
        // One of each pair, with or without 1; and {1}, and its complement.
        due("regions(false) of three pairs", x.regions(false), 18);
        due("regions(true) of three pairs", x.regions(true), 9);
        // Four pairs with equal sums, and two states by themselves: 16 and 2; the others are unions of these.
        x = graph("0a1 2a3 0b4 5b3 0c6 7c3");
        due("regions(true) of four pairs", x.regions(true), 16);
        x.setStates(10);
        due("regions(true) of four pairs and two states", x.regions(true), 18);
    }

    private static void region() {
        sentence("Returns the set of its states; NONE if there are not so many; BAD if k is negative.");
        NetSynthesizer x = graph(THREE_PAIRS);
        int[] minimal = {2, 25, 28, 49, 52, 73, 76, 97, 100};
        int[] all = {2, 25, 27, 28, 30, 49, 51, 52, 54, 73, 75, 76, 78, 97, 99, 100, 102, 125};
        for (int k = 0; k < 9; k++) {
            due("region(" + k + ", true)", x.region(k, true), minimal[k]);
        }
        for (int k = 0; k < 18; k++) {
            due("region(" + k + ", false)", x.region(k, false), all[k]);
        }
        due("region(9, true)", x.region(9, true), NONE);
        due("region(18, false)", x.region(18, false), NONE);
        for (int k : WILD) {
            due("region(" + k + ", true)", x.region(k, true), k < 0 ? BAD : NONE);
            due("region(" + k + ", false)", x.region(k, false), k < 0 ? BAD : NONE);
            due("region(" + k + ", true) of a new object", new NetSynthesizer().region(k, true), k < 0 ? BAD : NONE);
        }
    }

    private static void crosses() {
        sentence("Returns 0 if none of its arcs enters or exits the set (also if the event is not used), 1 if all of "
            + "them enter it, 2 if all of them exit it, 3 otherwise; BAD if set or event is out of range.");
        NetSynthesizer x = graph("0a1 2a3");
        int[] kinds = {0, 3, 3, 0, 3, 2, 3, 3, 3, 3, 1, 3, 0, 3, 3, 0};
        for (int set = 0; set < 16; set++) {
            due("crosses(" + set + ", 0)", x.crosses(set, 0), kinds[set]);
            due("crosses(" + set + ", 1): not used", x.crosses(set, 1), 0);
        }
        due("crosses(16, 0)", x.crosses(16, 0), BAD);
        for (int e = 0; e < 8; e++) {
            x = new NetSynthesizer();
            x.setStates(3);
            x.addArc(0, e, 1);
            due("crosses(1, " + e + "): it exits", x.crosses(1, e), 2);
            due("crosses(2, " + e + "): it enters", x.crosses(2, e), 1);
            due("crosses(4, " + e + "): neither", x.crosses(4, e), 0);
            x.addArc(2, e, 1);
            due("crosses(1, " + e + "): one of two exits", x.crosses(1, e), 3);
            due("crosses(1, " + (e ^ 1) + "): not used", x.crosses(1, e ^ 1), 0);
        }
        x = new NetSynthesizer();
        due("crosses(1, 0): that of all states", x.crosses(1, 0), 0);
        due("crosses(2, 0): more than all states", x.crosses(2, 0), BAD);
        x.setStates(10);
        x.addArc(0, 0, 9);
        due("crosses(1023, 0)", x.crosses(1023, 0), 0);
        due("crosses(1022, 0)", x.crosses(1022, 0), 1);
        due("crosses(511, 0)", x.crosses(511, 0), 2);
        due("crosses(1024, 0)", x.crosses(1024, 0), BAD);
        bad("crosses(?, 0)", (y, a) -> y.crosses(a, 0), 16, 17, 1023);
        bad("crosses(0, ?)", (y, a) -> y.crosses(0, a), 8, 9, 32);
    }

    private static void regionAround() {
        sentence("the one with the fewest states, of several the first one in the order of regions.");
        // The regions are {0,1} and {2}, {3}, and their unions.
        NetSynthesizer x = graph("0a1 2a2 3b3");
        due("regionAround(0): {2}, not {0,1}, nor {3}", x.regionAround(0), 4);
        due("regionAround(2)", x.regionAround(2), 3);
        due("regionAround(8)", x.regionAround(8), 8);
        due("regionAround(12): not minimal", x.regionAround(12), 12);
        due("regionAround(9)", x.regionAround(9), 11);
        x = graph(DIAMOND);
        due("regionAround(1): {0,1} and {0,2}", x.regionAround(1), 3);
        due("regionAround(8): {1,3} and {2,3}", x.regionAround(8), 10);

        sentence("Returns the region; NONE if no region contains the set; BAD if set is out of range.");
        due("regionAround(6)", x.regionAround(6), NONE);
        due("regionAround(15): all states", x.regionAround(15), NONE);
        due("regionAround(16)", x.regionAround(16), BAD);
        x = new NetSynthesizer();
        due("regionAround(0) of one state", x.regionAround(0), NONE);
        due("regionAround(1) of one state", x.regionAround(1), NONE);
        due("regionAround(2) of one state", x.regionAround(2), BAD);
        x.setStates(10);
        due("regionAround(0) of ten", x.regionAround(0), 1);
        due("regionAround(1022) of ten", x.regionAround(1022), 1022);
        due("regionAround(1023) of ten", x.regionAround(1023), NONE);
        due("regionAround(1024) of ten", x.regionAround(1024), BAD);
        bad("regionAround", (y, a) -> y.regionAround(a), 16, 17, 1023);
    }

    private static void separations() {
        sentence("true for those that are solvable, false for those that are not");
        NetSynthesizer x = new NetSynthesizer();
        for (int n = 1; n <= 10; n++) {
            x.setStates(n);
            due("separations(0, true) of " + n, x.separations(0, true), n * (n - 1) / 2);
            due("separations(0, false) of " + n, x.separations(0, false), 0);
        }
        // As many of both kinds as there can be: each state is a region, and each event is enabled in one state.
        x = graph("0a1 0b1 0c1 0d1 0e1 0f1 0g1 0h1");
        x.setStates(10);
        due("separations(0, true) of ten", x.separations(0, true), 45);
        due("separations(1, true) of ten", x.separations(1, true), 72);
        due("separations(1, false) of ten", x.separations(1, false), 0);
        x = graph(CYCLE);
        due("separations(0, true)", x.separations(0, true), 0);
        due("separations(0, false)", x.separations(0, false), 3);
        due("separations(1, true)", x.separations(1, true), 0);
        due("separations(1, false)", x.separations(1, false), 3);

        sentence("Returns the number; BAD if kind is out of range.");
        bad("separations(?, true)", (y, a) -> y.separations(a, true), 2, 3);
        bad("separations(?, false)", (y, a) -> y.separations(a, false), 2, 3);
    }

    private static void solver() {
        sentence("Returns the first minimal region that solves a separation of two states.");
        NetSynthesizer x = graph(THREE_PAIRS);
        due("solver(0, 1): {1} is the first one", x.solver(0, 1), 2);
        due("solver(0, 4): {4,3,2}, after {1} and {4,3,0}", x.solver(0, 4), 28);
        due("solver(4, 0)", x.solver(4, 0), 28);
        due("solver(2, 6): {4,3,2}", x.solver(2, 6), 28);
        due("solver(3, 4): {4,5,0}", x.solver(3, 4), 49);
        due("solver(4, 6)", x.solver(4, 6), 25);

        sentence("Returns the region; NONE if there is none; BAD if there is no such state, or s and t are the same.");
        x = graph(SHORTCUT);
        due("solver(0, 2)", x.solver(0, 2), NONE);
        due("solver(3, 1)", x.solver(3, 1), NONE);
        for (int s = 0; s < 4; s++) {
            due("solver(" + s + ", " + s + ")", x.solver(s, s), BAD);
        }
        due("solver(4, 4)", x.solver(4, 4), BAD);
        due("solver(0, 1) of one state", new NetSynthesizer().solver(0, 1), BAD);
        due("solver(0, 0) of one state", new NetSynthesizer().solver(0, 0), BAD);
        bad("solver(?, 0)", (y, a) -> y.solver(a, 0), 4, 5, 0);
        bad("solver(0, ?)", (y, a) -> y.solver(0, a), 4, 5, 0);
    }

    private static void preventer() {
        sentence("Returns the first minimal region that solves a separation of a state and an event.");
        NetSynthesizer x = graph(THREE_PAIRS);
        due("preventer(0, 0): {6,3,2}", x.preventer(0, 0), 76);
        due("preventer(1, 0): {6,3,0}", x.preventer(1, 0), 73);
        due("preventer(2, 0): {6,3,0}", x.preventer(2, 0), 73);
        due("preventer(0, 1): {6,3,2}", x.preventer(0, 1), 76);
        due("preventer(3, 1): {6,5,2}", x.preventer(3, 1), 100);

        sentence("Returns the region; NONE if there is none; BAD if there is no such state or event is out of range; "
            + "STATE if the event is not used, or enabled in s.");
        due("preventer(6, 0): enabled", x.preventer(6, 0), STATE);
        due("preventer(0, 2): not used", x.preventer(0, 2), STATE);
        due("preventer(7, 2): no state, and not used", x.preventer(7, 2), BAD);
        x = graph(CYCLE);
        due("preventer(0, 1)", x.preventer(0, 1), NONE);
        due("preventer(2, 0)", x.preventer(2, 0), NONE);
        due("preventer(2, 1): enabled", x.preventer(2, 1), STATE);
        due("preventer(0, 0) of a loop: enabled, and leads to 0", graph("0a0").preventer(0, 0), STATE);
        due("preventer(1, 7): another state", graph("0h1").preventer(1, 7), 1);
        bad("preventer(?, 0)", (y, a) -> y.preventer(a, 0), 4, 5, 9, 10);
        bad("preventer(0, ?)", (y, a) -> y.preventer(0, a), 8, 9, 32);
    }

    private static void unsolved() {
        sentence("Returns 100 * s + t for kind 0, 1000 + 100 * s + e for kind 1; NONE if there are not so many; BAD if "
            + "k is negative.");
        NetSynthesizer x = graph("9h9");
        for (int s = 0; s < 9; s++) {
            due("unsolved(" + s + ")", x.unsolved(s), 1007 + 100 * s);
        }
        due("unsolved(9)", x.unsolved(9), NONE);
        // Two loops that keep all states together: one event in all pairs of neighbours.
        x = graph("0a1 1a2 2a3 3a4 4a5 5a6 6a7 7a8 8a9");
        int k = 0;
        for (int s = 0; s < 10; s++) {
            for (int t = s + 1; t < 10; t++) {
                due("unsolved(" + k + ")", x.unsolved(k), 100 * s + t);
                k++;
            }
        }
        due("unsolved(45)", x.unsolved(45), 1900);
        due("unsolved(46)", x.unsolved(46), NONE);
        for (int wild : WILD) {
            due("unsolved(" + wild + ")", x.unsolved(wild), wild < 0 ? BAD : NONE);
            due("unsolved(" + wild + ") of a new object", new NetSynthesizer().unsolved(wild), wild < 0 ? BAD : NONE);
        }
        manyUnsolved();
    }

    /** All states stay together, and each of the events is enabled in few of them: 45 and 80 - 16 separations. */
    private static void manyUnsolved() {
        NetSynthesizer x = graph("0a1 1a2 2a3 3a4 4a5 5a6 6a7 7a8 8a9");
        for (int e = 1; e < 8; e++) {
            x.addArc(0, e, 0);
        }
        due("separations(0, false)", x.separations(0, false), 45);
        due("separations(1, false)", x.separations(1, false), 80 - 16);
        due("unsolved(45)", x.unsolved(45), 1101);
        due("unsolved(107)", x.unsolved(107), 1906);
        due("unsolved(108)", x.unsolved(108), 1907);
        due("unsolved(109)", x.unsolved(109), NONE);
    }

    private static void places() {
        sentence("Returns the number of places of the net.");
        NetSynthesizer x = new NetSynthesizer();
        for (int n = 1; n <= 10; n++) {
            x.setStates(n);
            // Without arcs each state but one needs a place of its own.
            due("places() of " + n, x.places(), n - 1);
        }
        due("places() of three pairs", graph(THREE_PAIRS).places(), 4);
        due("places() of a chain", graph("0a1 1b2 2c3 3d4 4e5 5f6 6g7 7h8").places(), 8);
    }

    private static void place() {
        sentence("0 for its region, 1 for the set of the events of which it is an input place, 2 for the set of the "
            + "events of which it is an output place (both as bit masks, bit e for event e), 3 for 1 if it is in the "
            + "current marking of the run and 0 if not, 4 for the number of solvable separations that it alone of all "
            + "places solves");
        NetSynthesizer x = graph(THREE_PAIRS);
        int[][] due = {{76, 3, 0, 0, 4}, {52, 0, 1, 0, 1}, {73, 1, 0, 1, 2}, {100, 2, 0, 0, 3}};
        for (int p = 0; p < 4; p++) {
            for (int what = 0; what < 5; what++) {
                due("place(" + p + ", " + what + ")", x.place(p, what), due[p][what]);
            }
        }
        // Each state but the last one is a place. It alone parts it from the last one, and its event from eight states.
        x = graph("0a1 1b2 2c3 3d4 4e5 5f6 6g7 7h8");
        for (int s = 0; s < 8; s++) {
            due("place(" + s + ", 0) of a chain", x.place(s, 0), 1 << s);
            due("place(" + s + ", 1) of a chain", x.place(s, 1), 1 << s);
            due("place(" + s + ", 2) of a chain", x.place(s, 2), s == 0 ? 0 : 1 << (s - 1));
            due("place(" + s + ", 3) of a chain", x.place(s, 3), s == 0 ? 1 : 0);
            due("place(" + s + ", 4) of a chain", x.place(s, 4), 9);
        }
        x = graph(DIAMOND);
        x.fire(0);
        due("place(0, 3) after a step", x.place(0, 3), 1);
        due("place(1, 3) after a step", x.place(1, 3), 0);
        x.fire(1);
        due("place(0, 3) after two steps", x.place(0, 3), 0);

        sentence("Returns the property; BAD if there is no such place or what is out of range.");
        for (int what = -1; what < 6; what++) {
            due("place(0, " + what + ") without places", new NetSynthesizer().place(0, what), BAD);
            due("place(2, " + what + ") of two", graph(DIAMOND).place(2, what), BAD);
            due("place(-1, " + what + ") of two", graph(DIAMOND).place(-1, what), BAD);
        }
        bad("place(?, 0)", (y, a) -> y.place(a, 0), 2, 3, 10);
        bad("place(0, ?)", (y, a) -> y.place(0, a), 5, 6);
        bad("place(1, ?)", (y, a) -> y.place(1, a), 5, 6);
    }

    private static void netGraph() {
        // FULL is tested by LimitTest.
        sentence("0 for its markings, 1 for its arcs (pairs of a marking and an event that can occur in it), 2 for the "
            + "markings in which no event can occur");
        numbers("", 1, 0, 1);
        numbers(DIAMOND, 4, 4, 1);
        numbers(CYCLE, 1, 2, 0);
        numbers(SHORTCUT, 2, 4, 0);
        numbers("0a0", 1, 1, 0);
        numbers("0a1 1b0", 2, 2, 0);
        numbers("0a1 0b2", 3, 2, 2);
        numbers("0a1 0b1", 2, 2, 1);
        // c occurs, and then a has its inputs, but one of its outputs is there, too.
        numbers("1a3 2c1 3c4 3b0 5b2", 2, 1, 1);

        sentence("Returns the number; BAD if what is out of range; FULL if the state graph is too large.");
        bad("netGraph", (y, a) -> y.netGraph(a), 3, 4);
    }

    private static void numbers(String text, int markings, int arcs, int dead) {
        NetSynthesizer x = graph(text);
        due("netGraph(0) of '" + text + "'", x.netGraph(0), markings);
        due("netGraph(1) of '" + text + "'", x.netGraph(1), arcs);
        due("netGraph(2) of '" + text + "'", x.netGraph(2), dead);
    }

    private static void fits() {
        sentence("Returns 1 if it fits, else 0.");
        due("fits() of a new object", new NetSynthesizer().fits(), 1);
        due("fits() of ten states: a can occur, but is not enabled in 0", graph("9a9").fits(), 0);
        due("fits() of ten states without arcs", afterSetStates(10).fits(), 1);
        due("fits() of the diamond", graph(DIAMOND).fits(), 1);
        due("fits() of the cycle", graph(CYCLE).fits(), 0);
        NetSynthesizer x = graph(CYCLE);
        x.repair();
        due("fits() of the repaired cycle", x.fits(), 1);
        x.undo();
        due("fits() after undo()", x.fits(), 0);
        // d keeps 3 and 4 together, so that c keeps 1 and 2 together; nothing is enabled in either of these.
        due("fits() of fewer markings than states", graph("0a1 0b2 3c1 4c2 3d5 4d5").fits(), 0);
    }

    private static NetSynthesizer afterSetStates(int n) {
        NetSynthesizer x = new NetSynthesizer();
        x.setStates(n);
        return x;
    }

    private static void enabled() {
        sentence("Returns their set, as a bit mask.");
        due("enabled() without arcs", new NetSynthesizer().enabled(), 0);
        due("enabled() of h", graph("0h1").enabled(), 128);
        due("enabled() of all", graph("0a1 0b1 0c1 0d1 0e1 0f1 0g1 0h1").enabled(), 255);
        NetSynthesizer x = graph("0a1 0b1 0c1 0d1 0e1 0f1 0g1 0h1");
        x.fire(7);
        due("enabled() at the end", x.enabled(), 0);
        x.restart();
        due("enabled() after restart()", x.enabled(), 255);
        due("enabled(): only in states that are not initial", graph("1a0").enabled(), 0);
    }

    private static void fire() {
        sentence("Returns the number of places in the marking then; BAD if event is out of range; STATE if it is not "
            + "used, or cannot occur.");
        NetSynthesizer x = graph(DIAMOND);
        due("fire(0)", x.fire(0), 1);
        due("fire(0): cannot occur any more", x.fire(0), STATE);
        due("fire(2): not used", x.fire(2), STATE);
        due("fire(1)", x.fire(1), 0);
        due("fire(1): cannot occur any more", x.fire(1), STATE);
        due("count(4): two steps", x.count(4), 2);
        due("count(6)", x.count(6), 3);
        due("fire(7) of a new object", new NetSynthesizer().fire(7), STATE);
        due("fire(7) without places", graph("0h0").fire(7), 0);
        // Two places come, and one leaves.
        due("fire(2) with three places then", graph("1a3 2c1 3c4 3b0 5b2").fire(2), 3);
        bad("fire", (y, a) -> y.fire(a), 8, 9, 32);
        x = graph("0a0");
        for (int i = 1; i <= 100; i++) {
            x.fire(0);
        }
        due("count(4) after 100 steps", x.count(4), 100);
        due("count(6) after 100 steps", x.count(6), 8);
        for (int left = 7; left >= 0; left--) {
            due("undo()", x.undo(), left);
        }
        due("count(4) of the oldest one", x.count(4), 92);
    }

    private static void restart() {
        sentence("Begins a new run. This is a change.");
        NetSynthesizer x = graph(DIAMOND);
        x.fire(0);
        x.fire(1);
        x.restart();
        due("count(4)", x.count(4), 0);
        due("place(0, 3)", x.place(0, 3), 1);
        due("place(1, 3)", x.place(1, 3), 1);
        due("count(1): the state graph stays", x.count(1), 4);
        due("count(6)", x.count(6), 4);
        due("undo()", x.undo(), 3);
        due("count(4) after undo()", x.count(4), 2);
        due("place(0, 3) after undo()", x.place(0, 3), 0);

        sentence("Returns the number of steps of the run before.");
        due("restart() after two steps", x.restart(), 2);
        due("restart() after none", x.restart(), 0);
        due("restart() of a new object", new NetSynthesizer().restart(), 0);
        x.fire(1);
        due("restart() after one step", x.restart(), 1);
    }

    private static void ifArc() {
        sentence("Tells how many separations would not be solvable if an arc were added. Nothing changes.");
        for (int from = 0; from < 4; from++) {
            for (int event = 0; event < 4; event++) {
                int to = (from + event) % 4;
                String what = "(" + from + ", " + event + ", " + to + ")";
                NetSynthesizer x = lively();
                int error = x.addArc(from, event, to);
                int due = error < 0 ? error : x.separations(0, false) + x.separations(1, false);
                int f = from, e = event;
                silent("ifArc" + what, Answers::lively, y -> y.ifArc(f, e, to), due);
            }
        }
        // a would keep 0 and 1 together, which nothing separates then, and would exit nothing: in 2 and 3.
        due("ifArc(1, 0, 1): both kinds", graph("0a1 2b3").ifArc(1, 0, 1), 1 + 2);

        sentence("Returns the number of both kinds together; the error code that addArc() would return.");
        NetSynthesizer x = crowd(4, 24);
        due("ifArc(3, 0, 0)", x.ifArc(3, 0, 0), FULL);
        due("ifArc(2, 7, 0)", x.ifArc(2, 7, 0), STATE);
        due("ifArc(2, 8, 0)", x.ifArc(2, 8, 0), BAD);
        due("ifArc as the 24th", crowd(4, 23).ifArc(2, 7, 3) >= 0 ? 1 : 0, 1);
        due("ifArc(0, 0, 0) of a new object", new NetSynthesizer().ifArc(0, 0, 0), 0);
        bad("ifArc(?, 3, 0)", (y, a) -> y.ifArc(a, 3, 0), 4, 5, 9, 10);
        bad("ifArc(0, ?, 0)", (y, a) -> y.ifArc(0, a, 0), 8, 9, 32);
        bad("ifArc(0, 3, ?)", (y, a) -> y.ifArc(0, 3, a), 4, 5, 9, 10);
    }

    private static void ifSplit() {
        sentence("Tells how many separations would not be solvable if an event were split. Nothing changes.");
        for (String text : new String[] {DIAMOND, CYCLE, SHORTCUT, ALL_EVENTS, THREE_PAIRS, "0b1 1b2 2a3 3a4"}) {
            for (int event = 0; event < 8; event++) {
                NetSynthesizer x = graph(text);
                int error = x.split(event);
                int due = error < 0 ? error : x.separations(0, false) + x.separations(1, false);
                int e = event;
                silent("ifSplit(" + event + ") of '" + text + "'", () -> graph(text), y -> y.ifSplit(e), due);
            }
        }

        sentence("Returns the number of both kinds together; the error code that split() would return.");
        due("ifSplit(0): all would be solvable", graph(CYCLE).ifSplit(0), 0);
        // a keeps 2, 3 and 4 together: three pairs; a in 0, 1 and 4, and b, with one arc, in none.
        due("ifSplit(1): both kinds", graph("0b1 1b2 2a3 3a4").ifSplit(1), 3 + 3);
        due("ifSplit(0): no event is left", graph(ALL_EVENTS).ifSplit(0), FULL);
        due("ifSplit(7): one arc", graph(ALL_EVENTS).ifSplit(7), STATE);
        due("ifSplit(0) of a new object", new NetSynthesizer().ifSplit(0), STATE);
        bad("ifSplit", (y, a) -> y.ifSplit(a), 8, 9, 32);
    }

    private static void undo() {
        sentence("Returns how many states are still remembered; STATE if there is none.");
        NetSynthesizer x = new NetSynthesizer();
        due("undo() of a new object", x.undo(), STATE);
        x.restart();
        due("undo() of one change", x.undo(), 0);
        due("undo() when there is none any more", x.undo(), STATE);
        for (int i = 0; i < 8; i++) {
            x.setStates(i + 2);
        }
        due("undo() of eight", x.undo(), 7);
        x.setStates(1);
        x.setStates(1);
        due("undo() of eight again", x.undo(), 7);
    }

    private static void count() {
        sentence("0 for the states, 1 for the arcs, 2 for the used events, 3 for the reachable states, 4 for the steps "
            + "of the run, 5 for the characters of the text buffer, 6 for the remembered states");
        NetSynthesizer x = graph("0c1 1c0 3h4 6c0");
        x.fire(2);
        int[] counts = {7, 4, 2, 2, 1, 15, 2};
        for (int what = 0; what < 7; what++) {
            due("count(" + what + ")", x.count(what), counts[what]);
        }
        x = crowd(10, 24);
        for (int i = 0; i < 90; i++) {
            x.type('0');
        }
        int[] greatest = {10, 24, 8, 2, 0, 80, 8};
        for (int what = 0; what < 7; what++) {
            due("count(" + what + ") at its limit", x.count(what), greatest[what]);
        }

        sentence("Returns the count; BAD if what is out of range.");
        bad("count", (y, a) -> y.count(a), 7, 8);
    }

    // ---- digest

    private static void digest() {
        sentence("h is 17341 at first; then h becomes 31 * h + v (long arithmetic that overflows) for each of these "
            + "values v, in this order: count(0) to count(6); for each arc arc() for 0 to 2; regions(false), "
            + "regions(true), and region(k, true) for each minimal region; for the kinds 0 and 1 separations(kind, "
            + "true) and separations(kind, false); unsolved(k) for all k from 0 for which it is not NONE; places(), "
            + "and for each place place() for 0 to 4; netGraph(0) to netGraph(2); fits(); enabled().");
        // One state, reachable; 0 up to netGraph(0) and netGraph(2), which are 1; it fits; none is enabled.
        due("digest() of a new object", new NetSynthesizer().digest(),
            sum(1, 0, 0, 1, 0, 0, 0, 0, 0, 0, 0, 0, 0, 0, 1, 0, 1, 1, 0));
        due("digest() of the same state", lively().digest(), lively().digest());
        for (String text : new String[] {"", DIAMOND, CYCLE, SHORTCUT, ALL_EVENTS, THREE_PAIRS, "9h9", "0a0",
            "1a3 2c1 3c4 3b0 5b2"}) {
            NetSynthesizer x = graph(text);
            due("digest() of '" + text + "'", x.digest(), digestOf(x));
            x.repair();
            x.fire(0);
            x.type('?');
            due("digest() of '" + text + "' with a run", x.digest(), digestOf(x));
        }
        due("digest() of a lively object", lively().digest(), digestOf(lively()));
        due("digest() with much remembered", longLived().digest(), digestOf(longLived()));
        due("digest() of 24 arcs", crowd(4, 24).digest(), digestOf(crowd(4, 24)));
        NetSynthesizer x = afterSetStates(10);
        due("digest() of ten states", x.digest(), digestOf(x));
    }
}
