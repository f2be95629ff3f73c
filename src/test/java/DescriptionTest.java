import java.util.ArrayDeque;
import java.util.ArrayList;
import java.util.Deque;
import java.util.List;

/**
 * A test for each sentence of the sections 'What it is', 'The public face' and 'Description' that names a boundary
 * case. The sentence stands in the test; the answers are worked out from it by hand.
 */
public final class DescriptionTest extends Sentences {
    // Pairs of states with equal sums in each region: 4 and 6, 3 and 5, 0 and 2. Thus the minimal regions are
    // {1} and all sets with one state of each pair; a exits those with 6 and 3, b exits those with 6 and 2.
    private static final String THREE_PAIRS = "2b4 6a5 3a4 6b0";
    // Its places are {0,1,2}, {1,4}, {3,4,5}, {0,3,4} and {0,2,3,5}. c can occur at first, and then neither
    // b nor c has its inputs, and a has them, but one of its outputs, {0,3,4}, is in the marking as well.
    private static final String CONTACT = "1a3 2c1 3c4 3b0 5b2";

    public static void main(String[] args) {
        whatItIs();
        stateGraphs();
        regions();
        separations();
        nets();
        run();
        text();
        changes();
        errors();
        endWith(args);
    }

    // ---- what it is, and the face

    private static void whatItIs() {
        sentence("An object is used for at most 512 calls after it has been made");
        NetSynthesizer x = new NetSynthesizer();
        for (int i = 1; i <= 510; i++) {
            x.setStates(i % 10 + 1);
        }
        due("count(0) as the call 511", x.count(0), 1);
        due("setStates(10) as the call 512", x.setStates(10), 1);

        sentence("public static final int BAD = -1, STATE = -2, FULL = -3, NONE = -9;");
        due("BAD", NetSynthesizer.BAD, -1);
        due("STATE", NetSynthesizer.STATE, -2);
        due("FULL", NetSynthesizer.FULL, -3);
        due("NONE", NetSynthesizer.NONE, -9);
    }

    // ---- state graphs

    private static void stateGraphs() {
        states();
        arcs();
        useAndReach();
    }

    private static void states() {
        sentence("There are 1 to 10 states, numbered from 0 (initially 1 state).");
        NetSynthesizer x = new NetSynthesizer();
        due("count(0)", x.count(0), 1);
        due("next(0, 0)", x.next(0, 0), NONE);
        due("next(1, 0)", x.next(1, 0), BAD);
        due("setStates(0)", x.setStates(0), BAD);
        due("setStates(11)", x.setStates(11), BAD);
        due("setStates(10)", x.setStates(10), 1);
        due("next(9, 0)", x.next(9, 0), NONE);
        due("next(10, 0)", x.next(10, 0), BAD);
        due("setStates(1)", x.setStates(1), 10);

        sentence("State 0 is the initial state.");
        x = graph("1a0 0b2");
        due("count(3): 0 and 2", x.count(3), 2);
        due("enabled(): b", x.enabled(), 2);

        sentence("There are the events 0 to 7.");
        x = new NetSynthesizer();
        due("addArc(0, -1, 0)", x.addArc(0, -1, 0), BAD);
        due("addArc(0, 8, 0)", x.addArc(0, 8, 0), BAD);
        due("addArc(0, 0, 0)", x.addArc(0, 0, 0), 0);
        due("addArc(0, 7, 0)", x.addArc(0, 7, 0), 1);
        due("enabled()", x.enabled(), 129);
    }

    private static void arcs() {
        sentence("There are at most 24 arcs, numbered from 0");
        NetSynthesizer x = crowd(4, 23);
        due("arc(23, 0) of 23", x.arc(23, 0), BAD);
        due("addArc as the 24th", x.addArc(2, 7, 3), 23);
        due("arc(23, 1)", x.arc(23, 1), 7);
        due("arc(0, 1)", x.arc(0, 1), 0);
        due("addArc as the 25th", x.addArc(3, 7, 3), FULL);
        due("count(1)", x.count(1), 24);

        sentence("a state to which it goes (it can be the same state)");
        x = new NetSynthesizer();
        due("addArc(0, 3, 0)", x.addArc(0, 3, 0), 0);
        due("next(0, 3)", x.next(0, 3), 0);
        due("load() of 4b4", graph("4b4").next(4, 1), 4);

        sentence("There is at most one arc with a given state from which it goes and a given event; then the event is "
            + "enabled in this state.");
        x = graph("0a1");
        due("addArc(0, 0, 0)", x.addArc(0, 0, 0), STATE);
        due("addArc(0, 0, 1): the same arc", x.addArc(0, 0, 1), STATE);
        due("addArc(1, 0, 1): another state", x.addArc(1, 0, 1), 1);
        due("addArc(0, 1, 1): another event", x.addArc(0, 1, 1), 2);
        x.dropArc(0);
        due("addArc(0, 0, 0) when it is not enabled any more", x.addArc(0, 0, 0), 2);
    }

    private static void useAndReach() {
        sentence("An event is used if there is an arc with it.");
        NetSynthesizer x = new NetSynthesizer();
        due("count(2) without arcs", x.count(2), 0);
        due("preventer(0, 0): not used", x.preventer(0, 0), STATE);
        x = graph("2a3 1a1 1h1");
        due("count(2): arcs from states that are not reachable", x.count(2), 2);
        due("preventer(0, 0): used", x.preventer(0, 0), NONE);
        x.dropArc(0);
        due("count(2) with one arc less", x.count(2), 2);
        x.dropArc(0);
        due("count(2) with the last arc gone", x.count(2), 1);
        due("count(2) of all", graph(ALL_EVENTS).count(2), 8);

        sentence("A state is reachable if it is the initial state, or an arc goes to it from a reachable state.");
        due("count(3): the initial state", new NetSynthesizer().count(3), 1);
        due("count(3): an arc to 0, and one between others", graph("1a0 2a3").count(3), 1);
        due("count(3): a loop", graph("0a0 1a1").count(3), 1);
        due("count(3): over two arcs, the second one first", graph("1a2 0a1").count(3), 3);
        due("count(3): a chain, backwards", graph("8a9 7a8 6a7 5a6 4a5 3a4 2a3 1a2 0a1").count(3), 10);
        due("count(3): a chain with a gap", graph("8a9 7a8 6a7 4a5 3a4 2a3 1a2 0a1").count(3), 6);
    }

    // ---- regions

    private static void regions() {
        whatIsARegion();
        minimalRegions();
        complementsAndUnions();
    }

    private static void whatIsARegion() {
        sentence("A set of states is told as a bit mask (bit s for state s).");
        NetSynthesizer x = new NetSynthesizer();
        x.setStates(10);
        for (int s = 0; s < 10; s++) {
            due("region(" + s + ", true)", x.region(s, true), 1 << s);
        }

        sentence("An arc enters a set if it goes to a state in the set from a state that is not in it, and exits the "
            + "set if it goes from a state in the set to a state that is not in it.");
        x = graph("0a1 2b2");
        due("crosses(2, 0): to a state in it", x.crosses(2, 0), 1);
        due("crosses(1, 0): from a state in it", x.crosses(1, 0), 2);
        due("crosses(3, 0): both in it", x.crosses(3, 0), 0);
        due("crosses(4, 0): none in it", x.crosses(4, 0), 0);
        due("crosses(4, 1): a loop in it", x.crosses(4, 1), 0);
        due("crosses(3, 1): a loop that is not in it", x.crosses(3, 1), 0);

        sentence("A region is a set R of states, neither empty nor the set of all states");
        for (int n = 1; n <= 10; n++) {
            x = new NetSynthesizer();
            x.setStates(n);
            due("regions(false) of " + n + " states", x.regions(false), (1 << n) - 2);
        }
        due("region(0, false): not the empty set", x.region(0, false), 1);
        due("region(1021, false): not the whole set", x.region(1021, false), 1022);
        due("regionAround(1023)", x.regionAround(1023), NONE);

        sentence("for each used event all arcs with it enter R, or all of them exit R, or none of them enters or "
            + "exits R.");
        due("regions(false): one enters, one exits", graph("0a1 1a0").regions(false), 0);
        due("regions(false): one enters, one does neither", graph("0a1 1a1").regions(false), 0);
        due("regions(false): one exits, one does neither", graph("0a1 1a2 2a2").regions(false), 0);
        due("regions(false): all do the same", graph("0a1 2a1").regions(false), 2);

        sentence("an event that is not used does not cross.");
        due("crosses(1, 7)", graph("0a1").crosses(1, 7), 0);
        due("crosses(1, 0) of a new object", new NetSynthesizer().crosses(1, 0), 0);
    }

    private static void minimalRegions() {
        sentence("A region is minimal if no other region is a subset of it.");
        NetSynthesizer x = graph("0a1 2a2 3b3");
        // 0 and 1 stay together.
        int[] minimal = {3, 4, 8, NONE};
        for (int k = 0; k < 4; k++) {
            due("region(" + k + ", true)", x.region(k, true), minimal[k]);
        }
        due("regions(false)", x.regions(false), 6);
        x = new NetSynthesizer();
        x.setStates(2);
        due("regions(true): both are minimal", x.regions(true), 2);

        sentence("Regions are ordered by their bit masks.");
        x = graph("0a1 2a2 3b3");
        int[] all = {3, 4, 7, 8, 11, 12, NONE};
        for (int k = 0; k < 7; k++) {
            due("region(" + k + ", false)", x.region(k, false), all[k]);
        }
    }

    private static void complementsAndUnions() {
        sentence("(The complement of a region is a region, too, and each region is a union of minimal regions that "
            + "have no states in common.)");
        for (String text : new String[] {DIAMOND, SHORTCUT, THREE_PAIRS, CONTACT, ALL_EVENTS, "0a1 2a2 3b3"}) {
            List<Integer> regions = regionsOf(text, false);
            List<Integer> minimal = regionsOf(text, true);
            int whole = (1 << graph(text).count(0)) - 1;
            for (int region : regions) {
                due("complement of " + region + " in " + text, regions.contains(whole - region) ? 1 : 0, 1);
                due("union for " + region + " in " + text, isUnion(region, minimal) ? 1 : 0, 1);
            }
        }
    }

    private static List<Integer> regionsOf(String text, boolean minimal) {
        NetSynthesizer x = graph(text);
        int n = x.regions(minimal);
        List<Integer> found = new ArrayList<>();
        for (int k = 0; k < n; k++) {
            found.add(x.region(k, minimal));
        }
        return found;
    }

    private static boolean isUnion(int set, List<Integer> parts) {
        for (int part : parts) {
            if ((part & ~set) == 0 && isUnion(set & ~part, parts)) {
                return true;
            }
        }
        return set == 0;
    }

    // ---- separations

    private static void separations() {
        sentence("Kind 0: two states s < t; a region solves it if one of both states is in it and the other one is "
            + "not.");
        // {0,1} and {2} are the minimal regions.
        NetSynthesizer x = graph("0a1 2a2");
        due("solver(0, 1): both in it, or none", x.solver(0, 1), NONE);
        due("solver(0, 2): only the first one in it", x.solver(0, 2), 3);
        due("solver(2, 0)", x.solver(2, 0), 3);
        due("separations(0, true)", x.separations(0, true), 2);
        due("separations(0, false)", x.separations(0, false), 1);
        // {0}, {1} and {2}: the first one that solves has only the second state in it.
        x = graph("0a1 1b2");
        due("solver(1, 0): only the second one in it", x.solver(1, 0), 1);
        due("separations(0, true) of one state", new NetSynthesizer().separations(0, true), 0);

        sentence("Kind 1: a state s and a used event e that is not enabled in s; a region solves it if e exits the "
            + "region and s is not in it.");
        x = graph(DIAMOND);
        due("preventer(1, 0): a exits {0,2}", x.preventer(1, 0), 5);
        due("preventer(0, 0): enabled", x.preventer(0, 0), STATE);
        // a exits {0,1}, and 1 is in it; {2}, in which 1 is not, is entered.
        x = graph("0a2 1b0 0b1");
        due("preventer(1, 0): 1 is in all that a exits", x.preventer(1, 0), NONE);
        due("preventer(2, 0)", x.preventer(2, 0), 3);
        due("separations(1, true): a in 2", x.separations(1, true), 1);
        due("separations(1, false): a in 1, b in 2", x.separations(1, false), 2);
        due("separations(1, true) of a loop: enabled, no separation", graph("0a0").separations(1, true), 0);
        due("separations(1, false) of a loop", graph("0a0").separations(1, false), 0);

        sentence("A separation is solvable if some minimal region solves it.");
        x = graph(CYCLE);
        due("separations(0, true) without regions", x.separations(0, true), 0);
        due("separations(1, true) without regions", x.separations(1, true), 0);
        x = graph(SHORTCUT);
        due("separations(0, true) with {0,2} and {1,3}", x.separations(0, true), 4);
        due("separations(0, false): 02 and 13", x.separations(0, false), 2);
        // Fewer than all regions, and not only the first one, solve: 1 and 2 need {1} or {2}.
        due("separations(0, true) of three states", graph("0a1 1b2").separations(0, true), 3);

        sentence("The separations are ordered: first those of kind 0, by s, then by t; then those of kind 1, by s, "
            + "then by e.");
        x = graph("0b1 1a2 2a0");
        // One arc with a ends where the other one begins, so that a cannot cross: all states stay together.
        int[] codes = {1, 2, 102, 1000, 1101, 1201, NONE};
        for (int k = 0; k < codes.length; k++) {
            due("unsolved(" + k + ")", x.unsolved(k), codes[k]);
        }
        x = graph("0a1 1a2 2b0 0c0");
        int[] mixed = {1, 2, 102, 1001, 1101, 1102, 1200, 1202, NONE};
        for (int k = 0; k < mixed.length; k++) {
            due("unsolved(" + k + ") with two events in a state", x.unsolved(k), mixed[k]);
        }
    }

    // ---- nets

    private static void nets() {
        placesAndEvents();
        occurring();
        building();
        netStates();
        fitting();
    }

    private static void placesAndEvents() {
        sentence("A net has places, each of which is a minimal region; its events are the used events.");
        NetSynthesizer x = graph(THREE_PAIRS);
        for (int p = 0; p < x.places(); p++) {
            due("place " + p + " is minimal", regionsOf(THREE_PAIRS, true).contains(x.place(p, 0)) ? 1 : 0, 1);
        }
        due("enabled() without places and events", new NetSynthesizer().enabled(), 0);
        due("enabled() without places: the used events", graph("0a0 0h0").enabled(), 129);

        sentence("An event has the places that it exits as its input places, and those that it enters as its output "
            + "places.");
        x = graph(SHORTCUT);
        due("place(0, 0)", x.place(0, 0), 5);
        due("place(0, 1): a", x.place(0, 1), 1);
        due("place(0, 2): b", x.place(0, 2), 2);
        due("place(1, 0)", x.place(1, 0), 10);
        due("place(1, 1): b", x.place(1, 1), 2);
        due("place(1, 2): a", x.place(1, 2), 1);
        x = graph("0h1 1g0");
        due("place(0, 0)", x.place(0, 0), 1);
        due("place(0, 1): h", x.place(0, 1), 128);
        due("place(0, 2): g", x.place(0, 2), 64);

        sentence("the initial marking consists of the places whose region contains the state 0.");
        x = graph(CONTACT);
        int[] inside = {1, 0, 0, 1, 1};
        for (int p = 0; p < 5; p++) {
            due("place(" + p + ", 3)", x.place(p, 3), inside[p]);
        }
    }

    private static void occurring() {
        sentence("An event can occur in a marking if all its input places are in it, and none of its output places is");
        NetSynthesizer x = graph(CONTACT);
        due("places()", x.places(), 5);
        // a lacks {1,4}, b lacks {3,4,5}; c has {0,2,3,5}, and {1,4} is free.
        due("enabled(): c", x.enabled(), 4);
        due("fire(0): one of two input places is in it", x.fire(0), STATE);
        due("fire(1): the input place is not in it", x.fire(1), STATE);
        due("fire(2)", x.fire(2), 3);
        due("enabled()", x.enabled(), 0);
        due("fire(0): an output place is in it", x.fire(0), STATE);

        sentence("then the input places leave the marking, and the output places come to it.");
        int[] inside = {1, 1, 0, 1, 0};
        for (int p = 0; p < 5; p++) {
            due("place(" + p + ", 3) after c", x.place(p, 3), inside[p]);
        }
    }

    private static void building() {
        sentence("as long as there is a solvable separation that no place solves");
        due("places() without separations", new NetSynthesizer().places(), 0);
        due("places() without solvable ones", graph(CYCLE).places(), 0);
        NetSynthesizer x = new NetSynthesizer();
        x.setStates(10);
        due("places() of ten states without arcs: all but one are needed", x.places(), 9);

        sentence("the minimal region that solves most of those separations that no place solves yet becomes the next "
            + "place (of several the first one in the order of regions).");
        // Most, 20, solves {2,3,6}. Then six each: {0,3,4}, {2,4,5}, {0,3,6}, {0,5,6}, {2,5,6}; the first one comes.
        // Then {2,4,5} solves three, as {0,3,6} and {0,5,6} do; then (2,a) and (3,b) need {0,3,6} and {2,5,6}.
        x = graph(THREE_PAIRS);
        due("places(): all but {0,3,4}", x.places(), 4);
        due("place(0, 0)", x.place(0, 0), 76);
        due("place(2, 0)", x.place(2, 0), 73);
        due("place(3, 0)", x.place(3, 0), 100);
        x = graph("1a0");
        due("place(0, 0): {1} solves (0,a), too", x.place(0, 0), 2);
        x = new NetSynthesizer();
        x.setStates(2);
        due("place(0, 0): {0} and {1} solve the same", x.place(0, 0), 1);

        sentence("Then the places are gone through in the order in which they came, and each place without which the "
            + "other places that are left solve the same separations is removed.");
        // Either of {0,3,4} and {2,4,5} can be missing, but not both: 1 and 4 would not be separated.
        x = graph(THREE_PAIRS);
        due("place(1, 0): {0,3,4} came before it, and is removed", x.place(1, 0), 52);
        int[] alone = {4, 1, 2, 3};
        for (int p = 0; p < 4; p++) {
            due("place(" + p + ", 4)", x.place(p, 4), alone[p]);
        }

        sentence("The places are numbered from 0 in the order in which they came.");
        int[] regions = {7, 18, 56, 25, 45};
        x = graph(CONTACT);
        for (int p = 0; p < 5; p++) {
            due("place(" + p + ", 0)", x.place(p, 0), regions[p]);
        }
        due("place(5, 0)", x.place(5, 0), BAD);
        due("place(-1, 0)", x.place(-1, 0), BAD);
    }

    private static void netStates() {
        sentence("The state graph of the net consists of all markings that can be reached from the initial marking by "
            + "events");
        due("netGraph(0): only the initial one", new NetSynthesizer().netGraph(0), 1);
        due("netGraph(0): a chain of nine", graph("0a1 1b2 2c3 3d4 4e5 5f6 6g7 7h8").netGraph(0), 9);
        due("netGraph(0): what is not reached is no matter", graph("1a2 2b1").netGraph(0), 1);

        sentence("the marking to which it leads, if it was not found before.");
        due("netGraph(0): two ways to one marking", graph(DIAMOND).netGraph(0), 4);
        due("netGraph(0): back to the first one", graph("0a1 1b0").netGraph(0), 2);
        due("netGraph(0): to itself", graph("0a0").netGraph(0), 1);

        // The other sentence, on what is too large, is tested by LimitTest.
        sentence("At most 100 markings are found");
        NetSynthesizer x = graph("0a5 7b8 5c7 8d3 6e2 3f2 9g4 2h0 6b1 0b9 3g1");
        due("netGraph(0): the most that a search found", x.netGraph(0), 58);
    }

    private static void fitting() {
        sentence("The net fits if its state graph is not too large, and there is a one-to-one relation between its "
            + "markings and the reachable states");
        due("fits(): one state", new NetSynthesizer().fits(), 1);
        due("fits(): a diamond", graph(DIAMOND).fits(), 1);
        due("fits(): 0 and 1 have one marking", graph("0a1 1b0 2a2 2b2").fits(), 0);
        due("fits(): states that are not reachable are no matter", graph("0a1 2b3").fits(), 1);
        due("fits(): more markings than states", graph(CONTACT).fits(), 0);

        sentence("so that the initial marking belongs to the state 0");
        due("fits(): a cycle", graph("0a1 1b2 2c0").fits(), 1);
        due("fits(): the state 0 is the end of a chain", graph("2a1 1b0").fits(), 1);

        sentence("an event leads from one marking to another one if, and only if, there is an arc with this event "
            + "from the state of the first one to that of the second one.");
        due("fits(): a can occur where it is not enabled", graph("0a0 0b1").fits(), 0);
        due("fits(): a can occur in both states", graph("0a0 0b1 1a1").fits(), 1);
        // a exits no region, so that nothing happens when it occurs.
        due("fits(): a loop in the net, but not in the graph", graph("0a1 1a0").fits(), 0);
    }

    // ---- run

    private static void run() {
        sentence("A run of the net has a current marking, initially the initial one, and a number of steps, "
            + "initially 0.");
        NetSynthesizer x = graph(DIAMOND);
        due("count(4)", x.count(4), 0);
        due("place(0, 3)", x.place(0, 3), 1);
        due("place(1, 3)", x.place(1, 3), 1);
        x.fire(0);
        due("count(4) after a step", x.count(4), 1);
        due("place(1, 3) after a step", x.place(1, 3), 0);
        due("count(4) of a new object", new NetSynthesizer().count(4), 0);

        sentence("Each successful call of load, setStates, addArc, dropArc, split and repair begins a new run");
        newRun("load()", DIAMOND, y -> y.load());
        newRun("setStates(5)", DIAMOND, y -> y.setStates(5));
        newRun("addArc(3, 2, 3)", DIAMOND, y -> y.addArc(3, 2, 3));
        newRun("dropArc(4)", DIAMOND + " 3c3", y -> y.dropArc(4));
        newRun("split(2)", DIAMOND + " 3c3 0c0", y -> y.split(2));
        newRun("repair()", DIAMOND + " 3c3 0c0", y -> y.repair());

        sentence("also if the state graph is the same as before.");
        newRun("load() of the same text", DIAMOND, y -> y.load());
        newRun("setStates(4)", DIAMOND, y -> y.setStates(4));
        newRun("repair() without a split", DIAMOND, y -> y.repair());

        sentence("Each successful call of load, setStates, addArc, dropArc, split and repair begins a new run");
        for (String text : new String[] {"0a1 0a2", "?"}) {
            x = graph(DIAMOND);
            x.fire(0);
            write(x, text);
            x.load();
            x.setStates(3);
            x.setStates(11);
            x.addArc(0, 0, 0);
            x.dropArc(4);
            x.split(7);
            due("count(4) after refused calls", x.count(4), 1);
            due("enabled() after refused calls", x.enabled(), 2);
        }
    }

    /** A diamond with some loops, of which the event 0 has occurred, begins a new run by a change. */
    private static void newRun(String what, String text, Call change) {
        NetSynthesizer x = graph(text);
        due("fire(0) before " + what, x.fire(0), 1);
        due("a change: " + what, change.on(x) >= 0 ? 1 : 0, 1);
        due("count(4) after " + what, x.count(4), 0);
        due("enabled(): a and b after " + what, x.enabled() & 3, 3);
        due("undo() after " + what, x.undo(), 2);
        due("count(4) after undo()", x.count(4), 1);
        due("enabled(): b after undo()", x.enabled() & 3, 2);
    }

    // ---- text

    private static void text() {
        buffer();
        items();
        faults();
    }

    private static void buffer() {
        sentence("The text buffer has at most 80 characters with codes from 32 to 126.");
        NetSynthesizer x = new NetSynthesizer();
        due("type(31)", x.type(31), BAD);
        due("type(127)", x.type(127), BAD);
        due("type(32)", x.type(32), 1);
        due("type(126)", x.type(126), 2);
        for (int i = 3; i <= 80; i++) {
            due("type(48)", x.type(48), i);
        }
        due("type(48) as the 81st", x.type(48), FULL);
        due("count(5)", x.count(5), 80);
        due("load(): ~ cannot stand there", x.load(), -11);
    }

    private static void items() {
        sentence("a natural number and a letter a to h and a natural number, directly one behind the other (an arc "
            + "from the first state with the event to the second state; a is event 0)");
        NetSynthesizer x = graph("0a9 9h0");
        int[] parts = {0, 0, 9, 9, 7, 0};
        for (int i = 0; i < 6; i++) {
            due("arc(" + i / 3 + ", " + i % 3 + ")", x.arc(i / 3, i % 3), parts[i]);
        }
        loading("0`1", -11, 1);
        loading("0i1", -11, 1);
        loading("0A1", -11, 1);
        loading("/a1", -10, 1);
        loading(":a1", -10, 1);
        loading("0a/", -12, 1);
        loading("0a:", -12, 1);
        loading("0 a1", -11, 1);
        loading("0a 1", -12, 1);
        loading("a1", -10, 1);
        loading("0ab1", -12, 1);

        sentence("A number has one digit.");
        loading("10a1", -11, 1);
        loading("0a10", -13, 1);

        sentence("Any number of spaces can stand before, between and behind the items, and at least one stands "
            + "between two of them");
        loading("", 0, 0);
        loading(" ", 0, 0);
        loading(" ".repeat(80), 0, 0);
        loading(" 0a0", 1, 0);
        loading("0a0 ", 1, 0);
        loading(" ".repeat(77) + "0a0", 1, 0);
        loading("0a0" + " ".repeat(77), 1, 0);
        loading("0a0" + " ".repeat(74) + "1a0", 2, 0);
        loading("0a0 1a0", 2, 0);
        loading("0a01a0", -13, 1);
        loading("0a1 1a2 2a3 3a4 4a5 5a6 6a7 7a8 8a9 9a0 0b1 1b2 2b3 3b4 4b5 5b6 6b7 7b8 8b9 9b0 ", 20, 0);

        sentence("(another character directly behind an item cannot stand at its place)");
        loading("0a1b2", -13, 1);
        loading("0a1,1a2", -13, 1);
        loading("0a1a", -13, 1);
        loading("0a1~", -13, 1);
        loading("0a1!", -13, 1);
    }

    private static void faults() {
        sentence("The text is read from left to right");
        loading("0a1 0a2 x", -14, 2);
        loading("x 0a1 0a2", -10, 1);
        loading("0a1 x 0a2 0a3", -14, 1);
        loading("0a1 0a2 0a3 0", -14, 2);

        sentence("1 a character that cannot stand at its place (its index), or the end within an item (the length of "
            + "the text)");
        loading("!", -10, 1);
        loading("0a1 1~", -15, 1);
        loading(" ".repeat(79) + "a", -89, 1);
        loading(" ".repeat(76) + "0a0x", -89, 1);
        loading("0", -11, 1);
        loading("0a", -12, 1);
        loading("0a1 1", -15, 1);
        loading("0a1 1a", -16, 1);
        loading(" ".repeat(79) + "0", -90, 1);
        loading(" ".repeat(78) + "0a", -90, 1);

        // That there are 24 arcs already is tested by LimitTest: 80 characters do not hold as many.
        sentence("2 an arc that cannot be added because there is one with the same state and event already");
        loading("0a1 0a1", -14, 2);
        loading("0a1 0a0", -14, 2);
        loading("5h1   1h5 5h5", -20, 2);
        loading("0a1 1a1 0b1", 3, 0);
        loading("0a0" + " ".repeat(74) + "0a1", -87, 2);

        sentence("(the index of its first character; it is found when its last character has been read)");
        loading("0a1 0a", -16, 1);
        loading("0a1 0a ", -16, 1);
        loading("0a1 0ax", -16, 1);
        loading("0a1 0a22", -14, 2);

        sentence("There are as many states as the greatest number in the text plus 1.");
        due("count(0): the first number", graph("7a0 1a2").count(0), 8);
        due("count(0): the last number", graph("0a1 2a9").count(0), 10);
        due("count(0): in the middle", graph("0a1 0b5 0c2").count(0), 6);
        due("count(0): the least", graph("0a0").count(0), 1);
    }

    /** What load() answers to a text on a lively object; with a fault nothing but what faultKind() returns changes. */
    private static void loading(String text, int answer, int fault) {
        Maker maker = () -> {
            NetSynthesizer x = lively();
            write(x, text);
            return x;
        };
        NetSynthesizer x = maker.make();
        due("load() of '" + text + "'", x.load(), answer);
        due("faultKind() after '" + text + "'", x.faultKind(), fault);
        if (fault == 0) {
            due("count(1) after '" + text + "'", x.count(1), answer);
            due("count(6) after '" + text + "'", x.count(6), 4);
        } else {
            List<Long> after = everything(x);
            List<Long> before = everything(maker.make());
            due("all else after '" + text + "'", after.subList(1, after.size()).equals(
                before.subList(1, before.size())) ? 1 : 0, 1);
        }
    }

    // ---- changes and errors

    private static void changes() {
        sentence("Changes are the successful calls of load, setStates, addArc, dropArc, split, repair, fire and "
            + "restart.");
        String text = DIAMOND + " 3c3 0c0";
        String[] names = {"load()", "setStates(9)", "addArc(0, 7, 3)", "dropArc(1)", "split(2)", "repair()", "fire(1)",
            "restart()"};
        Call[] calls = {y -> y.load(), y -> y.setStates(9), y -> y.addArc(0, 7, 3), y -> y.dropArc(1), y -> y.split(2),
            y -> y.repair(), y -> y.fire(1), y -> y.restart()};
        for (int i = 0; i < 8; i++) {
            NetSynthesizer x = graph(text);
            x.fire(0);
            due(names[i] + " succeeds", calls[i].on(x) >= 0 ? 1 : 0, 1);
            due("count(6) after " + names[i], x.count(6), 3);
        }
        NetSynthesizer x = new NetSynthesizer();
        x.type('0');
        x.clearText();
        x.undo();
        due("count(6): neither type, clearText nor undo", x.count(6), 0);

        sentence("Each change records the state before it: the state graph and the run.");
        for (int i = 0; i < 8; i++) {
            x = graph(text);
            x.fire(0);
            long before = x.digest();
            calls[i].on(x);
            due("undo() of " + names[i], x.undo(), 2);
            due("digest() after undo() of " + names[i], x.digest(), before);
        }
        remembering();
        faultAndTextStay();
    }

    private static void remembering() {
        sentence("At most 8 recorded states are remembered: when one more is recorded, the oldest one is dropped");
        NetSynthesizer x = new NetSynthesizer();
        for (int i = 2; i <= 9; i++) {
            x.setStates(i);
            due("count(6) after " + (i - 1) + " changes", x.count(6), i - 1);
        }
        x.setStates(10);
        due("count(6) after nine changes", x.count(6), 8);
        for (int left = 7; left >= 0; left--) {
            due("undo()", x.undo(), left);
        }
        due("count(0): the one with one state was dropped", x.count(0), 2);
        due("undo() of the ninth", x.undo(), STATE);

        sentence("undo restores the latest one and removes it.");
        x = new NetSynthesizer();
        Deque<Integer> kept = new ArrayDeque<>();
        for (int i = 0; i < 60; i++) {
            if (i % 7 < 5) {
                kept.addLast(x.count(0));
                x.setStates(i % 10 + 1);
                if (kept.size() > 8) {
                    kept.removeFirst();
                }
            } else {
                int states = kept.removeLast();
                due("undo() " + i, x.undo(), kept.size());
                due("count(0) " + i, x.count(0), states);
            }
        }
    }

    private static void faultAndTextStay() {
        sentence("(What faultKind() returns stays.)");
        NetSynthesizer x = graph("0a1");
        write(x, "0a1 0a1");
        x.load();
        x.undo();
        due("faultKind() after undo()", x.faultKind(), 2);
        write(x, "0a1");
        x.load();
        x.undo();
        due("faultKind() after undo() of the load without a fault", x.faultKind(), 0);

        sentence("Each change records the state before it: the state graph and the run.");
        x = graph("0a1 1a2");
        x.clearText();
        x.type('9');
        x.undo();
        due("count(5): the text is not in it", x.count(5), 1);
        due("load() of the text that stays", x.load(), -11);
    }

    private static void errors() {
        sentence("The error codes are BAD (-1: an argument is out of its range, or there is no such thing), STATE (-2: "
            + "the call is not possible now, as the method says) and FULL (-3: there is no room). If several of them "
            + "apply to a call, the first one in this order is returned.");
        NetSynthesizer x = crowd(4, 24);
        due("addArc: BAD, FULL", x.addArc(0, 8, 0), BAD);
        due("addArc: STATE, FULL", x.addArc(0, 0, 0), STATE);
        due("addArc: FULL", x.addArc(3, 0, 0), FULL);
        due("ifArc: BAD, FULL", x.ifArc(4, 0, 0), BAD);
        due("ifArc: STATE, FULL", x.ifArc(0, 0, 0), STATE);
        due("ifArc: FULL", x.ifArc(3, 0, 0), FULL);
        due("addArc: BAD, STATE", graph("0a1").addArc(0, 0, 2), BAD);
        x = graph(ALL_EVENTS);
        due("split: BAD, FULL", x.split(8), BAD);
        due("split: STATE, FULL", x.split(7), STATE);
        due("split: FULL", x.split(0), FULL);
        due("ifSplit: BAD, FULL", x.ifSplit(-1), BAD);
        due("ifSplit: STATE, FULL", x.ifSplit(1), STATE);
        due("ifSplit: FULL", x.ifSplit(0), FULL);
        due("fire: BAD, STATE", x.fire(8), BAD);
        due("preventer: BAD, STATE", x.preventer(10, 0), BAD);
        x = new NetSynthesizer();
        for (int i = 0; i < 80; i++) {
            x.type(' ');
        }
        due("type: BAD, FULL", x.type(127), BAD);
        due("type: FULL", x.type(126), FULL);

        refusedCalls();

        sentence("NONE (-9) is no error code; it means that there is no such thing, and is returned only if no error "
            + "code applies.");
        x = graph("0a1 1a0");
        due("next: no such state", x.next(2, 1), BAD);
        due("next: no such event", x.next(0, 8), BAD);
        due("next: no such arc", x.next(0, 1), NONE);
        due("region: k is negative, and there are none", x.region(-1, true), BAD);
        due("region: there are none", x.region(0, true), NONE);
        due("regionAround: out of range, and there are none", x.regionAround(4), BAD);
        due("regionAround: there are none", x.regionAround(0), NONE);
        due("solver: the same, and there is none", x.solver(1, 1), BAD);
        due("solver: there is none", x.solver(0, 1), NONE);
        due("preventer: enabled, and there is none", x.preventer(0, 0), STATE);
        due("unsolved: k is negative, and all are solvable", graph(DIAMOND).unsolved(-1), BAD);
        due("unsolved: all are solvable", graph(DIAMOND).unsolved(0), NONE);
    }

    private static void refusedCalls() {
        sentence("A call that returns an error code changes nothing.");
        Maker[] makers = {Answers::lively, Answers::longLived};
        for (Maker maker : makers) {
            silent("type(31)", maker, y -> y.type(31), BAD);
            silent("setStates(0)", maker, y -> y.setStates(0), BAD);
            silent("setStates(3)", maker, y -> y.setStates(3), STATE);
            silent("addArc(0, 8, 0)", maker, y -> y.addArc(0, 8, 0), BAD);
            silent("addArc(0, 0, 0)", maker, y -> y.addArc(0, 0, 0), STATE);
            silent("dropArc(5)", maker, y -> y.dropArc(5), BAD);
            silent("split(8)", maker, y -> y.split(8), BAD);
            silent("split(2)", maker, y -> y.split(2), STATE);
            silent("fire(8)", maker, y -> y.fire(8), BAD);
            silent("fire(1)", maker, y -> y.fire(1), STATE);
            silent("fire(7)", maker, y -> y.fire(7), STATE);
            silent("ifArc(0, 0, 0)", maker, y -> y.ifArc(0, 0, 0), STATE);
            silent("ifSplit(2)", maker, y -> y.ifSplit(2), STATE);
            silent("place(99, 0)", maker, y -> y.place(99, 0), BAD);
            silent("netGraph(3)", maker, y -> y.netGraph(3), BAD);
        }
        silent("undo()", () -> new NetSynthesizer(), y -> y.undo(), STATE);
        silent("addArc(3, 0, 0)", () -> crowd(4, 24), y -> y.addArc(3, 0, 0), FULL);
        silent("split(0)", () -> graph(ALL_EVENTS), y -> y.split(0), FULL);
        Maker fullText = () -> {
            NetSynthesizer x = lively();
            write(x, " ".repeat(77) + "0a1");
            return x;
        };
        silent("type(32)", fullText, y -> y.type(32), FULL);
        List<Integer> codes = new ArrayList<>();
        NetSynthesizer x = longLived();
        write(x, "0a1 0a1");
        codes.add(x.load());
        codes.add(x.count(6));
        due("load() with a fault, and count(6)", codes.equals(List.of(-14, 8)) ? 1 : 0, 1);
    }
}
