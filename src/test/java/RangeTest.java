/**
 * A test for each line of the document that tells a parameter: all numbers from the first one to the last one that
 * are in its range are taken, and those around them are not. The lines stand in the test, with the words before them.
 */
public final class RangeTest extends Sentences {
    interface Take {
        int on(NetSynthesizer x, int argument);
    }

    public static void main(String[] args) {
        text();
        changesOfTheGraph();
        looksAtTheGraph();
        regions();
        separations();
        nets();
        whatWouldBe();
        endWith(args);
    }

    /** BAD is due for no number from least to greatest, and for all others; each is tried on an object of its own. */
    private static void range(String what, Maker maker, Take take, int least, int greatest) {
        for (int argument = least; argument <= greatest; argument++) {
            due(what + " takes " + argument, take.on(maker.make(), argument) == BAD ? 0 : 1, 1);
        }
        for (int far = 1; far > 0; far *= 2) {
            due(what + " with " + (least - far), take.on(maker.make(), least - far), BAD);
            due(what + " with " + (greatest + far), take.on(maker.make(), greatest + far), BAD);
        }
        due(what + " with the least number", take.on(maker.make(), Integer.MIN_VALUE), BAD);
        due(what + " with the greatest number", take.on(maker.make(), Integer.MAX_VALUE), BAD);
    }

    /** BAD is due for negative numbers, and for no others. */
    private static void notNegative(String what, Maker maker, Take take) {
        for (int far = 1; far > 0; far *= 2) {
            due(what + " with " + -far, take.on(maker.make(), -far), BAD);
            due(what + " takes " + (far - 1), take.on(maker.make(), far - 1) == BAD ? 0 : 1, 1);
        }
        due(what + " with the least number", take.on(maker.make(), Integer.MIN_VALUE), BAD);
        due(what + " takes the greatest number", take.on(maker.make(), Integer.MAX_VALUE) == BAD ? 0 : 1, 1);
    }

    /** For each number of states BAD is due for what is no state. */
    private static void state(String what, Take take) {
        for (int states = 1; states <= 10; states++) {
            range(what + " of " + states + " states", states(states), take, 0, states - 1);
        }
    }

    private static void event(String what, Maker maker, Take take) {
        range(what, maker, take, 0, 7);
    }

    private static void set(String what, Take take) {
        for (int states = 1; states <= 10; states++) {
            range(what + " of " + states + " states", states(states), take, 0, (1 << states) - 1);
        }
    }

    private static void arcs(String what, Take take) {
        for (int arcs : new int[] {1, 2, 23, 24}) {
            range(what + " of " + arcs + " arcs", () -> crowd(4, arcs), take, 0, arcs - 1);
        }
        due(what + " without arcs", take.on(new NetSynthesizer(), 0), BAD);
    }

    private static Maker states(int n) {
        return () -> {
            NetSynthesizer x = new NetSynthesizer();
            x.setStates(n);
            return x;
        };
    }

    private static void text() {
        sentence("Appends a character to the text buffer. - code: its code, 32 to 126");
        range("type", NetSynthesizer::new, (x, a) -> x.type(a), 32, 126);
    }

    private static void changesOfTheGraph() {
        sentence("Sets the number of states. This is a change. - n: 1 to 10");
        range("setStates", NetSynthesizer::new, (x, a) -> x.setStates(a), 1, 10);

        sentence("Adds an arc. This is a change. - from: a state - event: 0 to 7 - to: a state");
        state("addArc(?, 0, 0)", (x, a) -> x.addArc(a, 0, 0));
        event("addArc(0, ?, 0)", NetSynthesizer::new, (x, a) -> x.addArc(0, a, 0));
        state("addArc(0, 0, ?)", (x, a) -> x.addArc(0, 0, a));

        sentence("Removes an arc. The numbers of the arcs behind it become smaller by 1. This is a change. - arc: the "
            + "arc");
        arcs("dropArc", (x, a) -> x.dropArc(a));

        sentence("This is a change. - event: 0 to 7 Returns the new event;");
        event("split", () -> graph(CYCLE), (x, a) -> x.split(a));
    }

    private static void looksAtTheGraph() {
        sentence("Returns a part of an arc. - arc: the arc - what: 0 for the state from which it goes, 1 for its "
            + "event, 2 for the state to which it goes");
        arcs("arc(?, 0)", (x, a) -> x.arc(a, 0));
        range("arc(0, ?)", () -> graph("1b2"), (x, a) -> x.arc(0, a), 0, 2);

        sentence("Returns the state to which an event leads. - state: a state - event: 0 to 7");
        state("next(?, 0)", (x, a) -> x.next(a, 0));
        event("next(0, ?)", NetSynthesizer::new, (x, a) -> x.next(0, a));

        sentence("Returns a count. - what:");
        range("count", NetSynthesizer::new, (x, a) -> x.count(a), 0, 6);
    }

    private static void regions() {
        sentence("Returns a region. - k: its place in the order of regions (or of minimal regions), from 0 - minimal: "
            + "whether only minimal regions are considered");
        for (String text : new String[] {"", CYCLE, DIAMOND}) {
            notNegative("region(?, false) of '" + text + "'", () -> graph(text), (x, a) -> x.region(a, false));
            notNegative("region(?, true) of '" + text + "'", () -> graph(text), (x, a) -> x.region(a, true));
        }

        sentence("Tells how an event crosses a set of states. - set: a set of states, 0 to that of all states - event: "
            + "0 to 7");
        set("crosses(?, 0)", (x, a) -> x.crosses(a, 0));
        event("crosses(0, ?)", NetSynthesizer::new, (x, a) -> x.crosses(0, a));
        event("crosses(1, ?)", () -> graph(CYCLE), (x, a) -> x.crosses(1, a));

        sentence("- set: a set of states, 0 to that of all states Returns the region;");
        set("regionAround", (x, a) -> x.regionAround(a));
    }

    private static void separations() {
        sentence("Counts separations. - kind: 0 or 1");
        range("separations(?, true)", () -> graph(CYCLE), (x, a) -> x.separations(a, true), 0, 1);
        range("separations(?, false)", NetSynthesizer::new, (x, a) -> x.separations(a, false), 0, 1);

        sentence("Returns the first minimal region that solves a separation of two states. - s: a state - t: another "
            + "state");
        for (int states = 2; states <= 10; states++) {
            pairs(states);
        }

        sentence("Returns the first minimal region that solves a separation of a state and an event. - s: a state - "
            + "event: 0 to 7");
        state("preventer(?, 0)", (x, a) -> x.preventer(a, 0));
        event("preventer(0, ?)", () -> graph(CYCLE), (x, a) -> x.preventer(0, a));

        sentence("Returns a separation that is not solvable. - k: its place in the order of those that are not, from "
            + "0");
        notNegative("unsolved of the cycle", () -> graph(CYCLE), (x, a) -> x.unsolved(a));
        notNegative("unsolved of the diamond", () -> graph(DIAMOND), (x, a) -> x.unsolved(a));
    }

    /** The solver of two states is looked for if both are there, and they are not the same. */
    private static void pairs(int states) {
        NetSynthesizer x = states(states).make();
        for (int s = -1; s <= states; s++) {
            for (int t = -1; t <= states; t++) {
                boolean bad = s < 0 || t < 0 || s >= states || t >= states || s == t;
                // Without arcs each state is a minimal region.
                due("solver(" + s + ", " + t + ") of " + states, x.solver(s, t), bad ? BAD : 1 << Math.min(s, t));
            }
        }
        range("solver(0, ?)", states(states), (y, a) -> y.solver(0, a), 1, states - 1);
        range("solver(?, last)", states(states), (y, a) -> y.solver(a, states - 1), 0, states - 2);
    }

    private static void nets() {
        sentence("Returns a property of a place. - place: the place - what: 0 for its region,");
        // Without arcs each state but one is a place.
        for (int states = 2; states <= 10; states++) {
            range("place(?, 0) of " + states, states(states), (x, a) -> x.place(a, 0), 0, states - 2);
        }
        due("place(0, 0) without places", new NetSynthesizer().place(0, 0), BAD);
        range("place(0, ?)", () -> graph(DIAMOND), (x, a) -> x.place(0, a), 0, 4);
        range("place(1, ?)", () -> graph(DIAMOND), (x, a) -> x.place(1, a), 0, 4);

        sentence("Returns a number of the state graph of the net. - what: 0 for its markings,");
        range("netGraph", () -> graph(DIAMOND), (x, a) -> x.netGraph(a), 0, 2);

        sentence("Lets an event occur in the run. This is a change. - event: 0 to 7");
        event("fire", () -> graph(DIAMOND), (x, a) -> x.fire(a));
        event("fire of a new object", NetSynthesizer::new, (x, a) -> x.fire(a));
    }

    private static void whatWouldBe() {
        sentence("Tells how many separations would not be solvable if an arc were added. Nothing changes. - from: a "
            + "state - event: 0 to 7 - to: a state");
        state("ifArc(?, 0, 0)", (x, a) -> x.ifArc(a, 0, 0));
        event("ifArc(0, ?, 0)", NetSynthesizer::new, (x, a) -> x.ifArc(0, a, 0));
        state("ifArc(0, 0, ?)", (x, a) -> x.ifArc(0, 0, a));

        sentence("Tells how many separations would not be solvable if an event were split. Nothing changes. - event: "
            + "0 to 7");
        event("ifSplit", () -> graph(CYCLE), (x, a) -> x.ifSplit(a));
    }
}
