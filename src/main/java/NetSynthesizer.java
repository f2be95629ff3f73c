/**
 * A synthesizer of elementary Petri nets from state graphs by regions.
 * The document ../shared/DOC.md tells what each method promises.
 */
public final class NetSynthesizer {
    public static final int BAD = -1, STATE = -2, FULL = -3, NONE = -9;

    private static final int MAX_STATES = 10;
    private static final int MAX_EVENTS = 8;
    private static final int MAX_ARCS = 24;
    private static final int MAX_TEXT = 80;
    private static final int MAX_MOMENTS = 8;
    private static final int MAX_MARKINGS = 100;
    // All sets of 10 states but the empty one and the whole one.
    private static final int MAX_REGIONS = 1022;
    // Of the sets of 10 states no more than 252 can be such that none is a subset of another (Sperner).
    private static final int MAX_MINIMAL = 252;
    // 45 pairs of states, and 10 * 8 pairs of a state and an event.
    private static final int MAX_SEPARATIONS = 125;

    // How much is known of the present state graph: each level includes those below it.
    private static final int NOTHING = 0;
    private static final int REGIONS = 1;
    private static final int NET = 2;
    private static final int MARKINGS = 3;

    private final TextBuffer text;
    private final Graph graph;
    private final Run run;
    private final History history;
    private final Analysis analysis;
    private final Net net;
    private final NetStates netStates;
    private final Crossing crossing;
    private final Graph trial;
    private final Analysis trialAnalysis;
    private int known;

    public NetSynthesizer() {
        text = new TextBuffer();
        graph = new Graph();
        run = new Run();
        history = new History();
        analysis = new Analysis();
        net = new Net();
        netStates = new NetStates();
        crossing = new Crossing();
        trial = new Graph();
        trialAnalysis = new Analysis();
        known = NOTHING;
    }

    // ---- state graphs

    public int type(int code) {
        if (code < 32 || code > 126) {
            return BAD;
        }
        if (text.length >= MAX_TEXT) {
            return FULL;
        }
        text.append(code);
        return text.length;
    }

    public int clearText() {
        int before = text.length;
        text.length = 0;
        return before;
    }

    public int load() {
        int answer = text.readInto(trial);
        if (answer < 0) {
            return answer;
        }
        beginGraphChange();
        graph.become(trial);
        return answer;
    }

    public int faultKind() {
        return text.fault;
    }

    public int setStates(int n) {
        if (n < 1 || n > MAX_STATES) {
            return BAD;
        }
        if (graph.statesNeeded() > n) {
            return STATE;
        }
        int before = graph.states;
        beginGraphChange();
        graph.states = n;
        return before;
    }

    public int addArc(int from, int event, int to) {
        int refusal = arcRefusal(from, event, to);
        if (refusal != 0) {
            return refusal;
        }
        int number = graph.arcs;
        beginGraphChange();
        graph.append(from, event, to);
        return number;
    }

    public int dropArc(int arc) {
        if (!isArc(arc)) {
            return BAD;
        }
        beginGraphChange();
        graph.remove(arc);
        return graph.arcs;
    }

    public int arc(int arc, int what) {
        if (!isArc(arc)) {
            return BAD;
        }
        switch (what) {
            case 0:
                return graph.from[arc];
            case 1:
                return graph.event[arc];
            case 2:
                return graph.to[arc];
            default:
                return BAD;
        }
    }

    public int next(int state, int event) {
        if (!isState(state) || !isEvent(event)) {
            return BAD;
        }
        int found = graph.target(state, event);
        return found < 0 ? NONE : found;
    }

    public int split(int event) {
        int refusal = splitRefusal(event);
        if (refusal != 0) {
            return refusal;
        }
        beginGraphChange();
        return graph.splitEvent(event);
    }

    public int repair() {
        beginGraphChange();
        int splits = 0;
        // Each split uses one event more, so that there are fewer splits than events.
        while (splits < MAX_EVENTS) {
            learn(REGIONS);
            int event = analysis.eventToSplit(graph);
            if (event < 0) {
                break;
            }
            graph.splitEvent(event);
            known = NOTHING;
            splits++;
        }
        return splits;
    }

    // ---- regions

    public int regions(boolean minimal) {
        learn(REGIONS);
        return minimal ? analysis.minimalCount : analysis.regionCount;
    }

    public int region(int k, boolean minimal) {
        if (k < 0) {
            return BAD;
        }
        learn(REGIONS);
        if (minimal) {
            return k < analysis.minimalCount ? analysis.minimal[k] : NONE;
        }
        return k < analysis.regionCount ? analysis.all[k] : NONE;
    }

    public int crosses(int set, int event) {
        if (!isStateSet(set) || !isEvent(event)) {
            return BAD;
        }
        crossing.measure(graph, set);
        return crossing.kindOf(event);
    }

    public int regionAround(int set) {
        if (!isStateSet(set)) {
            return BAD;
        }
        learn(REGIONS);
        int smallest = analysis.smallestAround(set);
        return smallest < 0 ? NONE : smallest;
    }

    // ---- separations

    public int separations(int kind, boolean solved) {
        if (kind < 0 || kind > 1) {
            return BAD;
        }
        learn(REGIONS);
        return analysis.countSeparations(kind, solved);
    }

    public int solver(int s, int t) {
        if (!isState(s) || !isState(t) || s == t) {
            return BAD;
        }
        learn(REGIONS);
        for (int k = 0; k < analysis.minimalCount; k++) {
            if (analysis.parts(k, s, t)) {
                return analysis.minimal[k];
            }
        }
        return NONE;
    }

    public int preventer(int s, int event) {
        if (!isState(s) || !isEvent(event)) {
            return BAD;
        }
        if (graph.arcsWith(event) == 0 || graph.target(s, event) >= 0) {
            return STATE;
        }
        learn(REGIONS);
        for (int k = 0; k < analysis.minimalCount; k++) {
            if (analysis.prevents(k, s, event)) {
                return analysis.minimal[k];
            }
        }
        return NONE;
    }

    public int unsolved(int k) {
        if (k < 0) {
            return BAD;
        }
        learn(REGIONS);
        int i = analysis.unsolvedIndex(k);
        if (i < 0) {
            return NONE;
        }
        int code = 100 * analysis.first[i] + analysis.second[i];
        return i < analysis.pairCount ? code : 1000 + code;
    }

    // ---- nets

    public int places() {
        learn(NET);
        return net.placeCount;
    }

    public int place(int place, int what) {
        learn(NET);
        if (place < 0 || place >= net.placeCount) {
            return BAD;
        }
        int k = net.regionOf[place];
        switch (what) {
            case 0:
                return analysis.minimal[k];
            case 1:
                return analysis.exiting[k];
            case 2:
                return analysis.entering[k];
            case 3:
                return currentMarking().has(place) ? 1 : 0;
            case 4:
                return net.solvedAlone(place);
            default:
                return BAD;
        }
    }

    public int netGraph(int what) {
        if (what < 0 || what > 2) {
            return BAD;
        }
        learn(MARKINGS);
        if (netStates.tooLarge) {
            return FULL;
        }
        if (what == 0) {
            return netStates.markingCount;
        }
        return what == 1 ? netStates.arcCount : netStates.deadCount;
    }

    public int fits() {
        learn(MARKINGS);
        return netStates.matches(graph) ? 1 : 0;
    }

    // ---- runs

    public int enabled() {
        learn(NET);
        Bits marking = currentMarking();
        int events = 0;
        for (int e = 0; e < MAX_EVENTS; e++) {
            if (net.canOccur(e, marking)) {
                events |= 1 << e;
            }
        }
        return events;
    }

    public int fire(int event) {
        if (!isEvent(event)) {
            return BAD;
        }
        learn(NET);
        Bits marking = currentMarking();
        if (!net.canOccur(event, marking)) {
            return STATE;
        }
        history.remember(graph, run);
        net.occur(event, marking);
        run.steps++;
        return marking.size();
    }

    public int restart() {
        int before = run.steps;
        history.remember(graph, run);
        run.steps = 0;
        return before;
    }

    // ---- what would be

    public int ifArc(int from, int event, int to) {
        int refusal = arcRefusal(from, event, to);
        if (refusal != 0) {
            return refusal;
        }
        trial.become(graph);
        trial.append(from, event, to);
        return unsolvedInTrial();
    }

    public int ifSplit(int event) {
        int refusal = splitRefusal(event);
        if (refusal != 0) {
            return refusal;
        }
        trial.become(graph);
        trial.splitEvent(event);
        return unsolvedInTrial();
    }

    // ---- history

    public int undo() {
        if (history.size == 0) {
            return STATE;
        }
        history.restore(graph, run);
        known = NOTHING;
        return history.size;
    }

    public int count(int what) {
        switch (what) {
            case 0:
                return graph.states;
            case 1:
                return graph.arcs;
            case 2:
                return Integer.bitCount(graph.usedEvents());
            case 3:
                return Integer.bitCount(graph.reachableStates());
            case 4:
                return run.steps;
            case 5:
                return text.length;
            case 6:
                return history.size;
            default:
                return BAD;
        }
    }

    public long digest() {
        long h = 17341L;
        for (int what = 0; what <= 6; what++) {
            h = 31L * h + count(what);
        }
        for (int i = 0; i < graph.arcs; i++) {
            for (int what = 0; what <= 2; what++) {
                h = 31L * h + arc(i, what);
            }
        }
        h = 31L * h + regions(false);
        h = 31L * h + regions(true);
        for (int k = 0; k < analysis.minimalCount; k++) {
            h = 31L * h + region(k, true);
        }
        for (int kind = 0; kind <= 1; kind++) {
            h = 31L * h + separations(kind, true);
            h = 31L * h + separations(kind, false);
        }
        for (int k = 0; k < MAX_SEPARATIONS && unsolved(k) != NONE; k++) {
            h = 31L * h + unsolved(k);
        }
        h = 31L * h + places();
        for (int p = 0; p < net.placeCount; p++) {
            for (int what = 0; what <= 4; what++) {
                h = 31L * h + place(p, what);
            }
        }
        for (int what = 0; what <= 2; what++) {
            h = 31L * h + netGraph(what);
        }
        h = 31L * h + fits();
        return 31L * h + enabled();
    }

    // ---- what several methods need

    private boolean isState(int state) {
        return state >= 0 && state < graph.states;
    }

    private boolean isStateSet(int set) {
        return set >= 0 && set <= graph.allStates();
    }

    private boolean isArc(int arc) {
        return arc >= 0 && arc < graph.arcs;
    }

    private static boolean isEvent(int event) {
        return event >= 0 && event < MAX_EVENTS;
    }

    /** The error code for adding this arc; 0 if it can be added. */
    private int arcRefusal(int from, int event, int to) {
        if (!isState(from) || !isEvent(event) || !isState(to)) {
            return BAD;
        }
        if (graph.target(from, event) >= 0) {
            return STATE;
        }
        return graph.arcs >= MAX_ARCS ? FULL : 0;
    }

    /** The error code for splitting this event; 0 if it can be split. */
    private int splitRefusal(int event) {
        if (!isEvent(event)) {
            return BAD;
        }
        if (graph.arcsWith(event) < 2) {
            return STATE;
        }
        return graph.unusedEvent() < 0 ? FULL : 0;
    }

    /** Remembers the state before a change of the graph, and begins the new run that follows it. */
    private void beginGraphChange() {
        history.remember(graph, run);
        run.steps = 0;
        known = NOTHING;
    }

    /** Finds out of the graph what is not known yet, up to a level. */
    private void learn(int level) {
        if (known < REGIONS && level >= REGIONS) {
            analysis.study(graph);
            known = REGIONS;
        }
        if (known < NET && level >= NET) {
            net.build(analysis, graph.usedEvents());
            known = NET;
        }
        if (known < MARKINGS && level >= MARKINGS) {
            netStates.explore(net);
            known = MARKINGS;
        }
    }

    /** The marking of the run; the net must be known before. */
    private Bits currentMarking() {
        // A run may begin before its net is known, so its first marking is filled in here.
        if (run.steps == 0) {
            run.marking.become(net.initial);
        }
        return run.marking;
    }

    private int unsolvedInTrial() {
        trialAnalysis.study(trial);
        return trialAnalysis.countSeparations(0, false) + trialAnalysis.countSeparations(1, false);
    }

    /** A set of numbers from 0 to 127: of places, or of separations. */
    private static final class Bits {
        private long low;
        private long high;

        void clear() {
            low = 0L;
            high = 0L;
        }

        void become(Bits other) {
            low = other.low;
            high = other.high;
        }

        void put(int i) {
            if (i < 64) {
                low |= 1L << i;
            } else {
                high |= 1L << (i - 64);
            }
        }

        boolean has(int i) {
            long bit = i < 64 ? low >>> i : high >>> (i - 64);
            return (bit & 1L) != 0L;
        }

        int size() {
            return Long.bitCount(low) + Long.bitCount(high);
        }

        int sizeShared(Bits other) {
            return Long.bitCount(low & other.low) + Long.bitCount(high & other.high);
        }

        void join(Bits other) {
            low |= other.low;
            high |= other.high;
        }

        void remove(Bits other) {
            low &= ~other.low;
            high &= ~other.high;
        }

        boolean holds(Bits other) {
            return (other.low & ~low) == 0L && (other.high & ~high) == 0L;
        }

        boolean meets(Bits other) {
            return (low & other.low) != 0L || (high & other.high) != 0L;
        }

        boolean same(Bits other) {
            return low == other.low && high == other.high;
        }
    }

    /** A state graph. */
    private static final class Graph {
        private int states = 1;
        private int arcs = 0;
        private final int[] from = new int[MAX_ARCS];
        private final int[] event = new int[MAX_ARCS];
        private final int[] to = new int[MAX_ARCS];

        void become(Graph other) {
            states = other.states;
            arcs = other.arcs;
            for (int i = 0; i < arcs; i++) {
                from[i] = other.from[i];
                event[i] = other.event[i];
                to[i] = other.to[i];
            }
        }

        void clear() {
            states = 1;
            arcs = 0;
        }

        void append(int source, int label, int goal) {
            if (arcs < MAX_ARCS) {
                from[arcs] = source;
                event[arcs] = label;
                to[arcs] = goal;
                arcs++;
            }
        }

        void remove(int arc) {
            for (int i = arc; i < arcs - 1; i++) {
                from[i] = from[i + 1];
                event[i] = event[i + 1];
                to[i] = to[i + 1];
            }
            arcs--;
        }

        int allStates() {
            return (1 << states) - 1;
        }

        /** The smallest number of states that the arcs allow. */
        int statesNeeded() {
            int greatest = 0;
            for (int i = 0; i < arcs; i++) {
                greatest = Math.max(greatest, Math.max(from[i], to[i]));
            }
            return greatest + 1;
        }

        /** The state to which an event leads; -1 if it is not enabled. */
        int target(int state, int label) {
            for (int i = 0; i < arcs; i++) {
                if (from[i] == state && event[i] == label) {
                    return to[i];
                }
            }
            return -1;
        }

        int arcsWith(int label) {
            int found = 0;
            for (int i = 0; i < arcs; i++) {
                if (event[i] == label) {
                    found++;
                }
            }
            return found;
        }

        int usedEvents() {
            int used = 0;
            for (int i = 0; i < arcs; i++) {
                used |= 1 << event[i];
            }
            return used;
        }

        /** The smallest event that is not used; -1 if all are used. */
        int unusedEvent() {
            int used = usedEvents();
            for (int e = 0; e < MAX_EVENTS; e++) {
                if ((used >> e & 1) == 0) {
                    return e;
                }
            }
            return -1;
        }

        /** Splits an event that has at least two arcs while some event is unused. */
        int splitEvent(int label) {
            int fresh = unusedEvent();
            int last = -1;
            for (int i = 0; i < arcs; i++) {
                if (event[i] == label && (last < 0 || from[i] > from[last])) {
                    last = i;
                }
            }
            if (last >= 0 && fresh >= 0) {
                event[last] = fresh;
            }
            return fresh;
        }

        int reachableStates() {
            int reached = 1;
            // Each round but the last one reaches at least one state more.
            for (int round = 0; round < MAX_STATES; round++) {
                for (int i = 0; i < arcs; i++) {
                    if ((reached >> from[i] & 1) != 0) {
                        reached |= 1 << to[i];
                    }
                }
            }
            return reached;
        }
    }

    /** The text buffer, and how it is read. */
    private static final class TextBuffer {
        // Where the next character stands: between items, at the letter or the goal of an item, or behind one.
        private static final int BETWEEN = 0;
        private static final int LETTER = 1;
        private static final int GOAL = 2;
        private static final int BEHIND = 3;

        private final int[] codes = new int[MAX_TEXT];
        private int length = 0;
        private int fault = 0;

        void append(int code) {
            if (length < MAX_TEXT) {
                codes[length] = code;
                length++;
            }
        }

        /** Reads the text into a graph, and returns the number of items, or -10 minus the position of the fault. */
        int readInto(Graph graph) {
            graph.clear();
            fault = 0;
            int place = BETWEEN;
            int start = 0;
            int label = 0;
            for (int i = 0; i < length; i++) {
                int code = codes[i];
                if (!canStand(code, place)) {
                    return faultAt(1, i);
                }
                if (place == LETTER) {
                    label = code - 'a';
                    place = GOAL;
                } else if (place == GOAL) {
                    if (!addItem(graph, codes[start] - '0', label, code - '0')) {
                        return faultAt(2, start);
                    }
                    place = BEHIND;
                } else if (code == ' ') {
                    place = BETWEEN;
                } else {
                    start = i;
                    place = LETTER;
                }
            }
            if (place == LETTER || place == GOAL) {
                return faultAt(1, length);
            }
            return graph.arcs;
        }

        private int faultAt(int kind, int position) {
            fault = kind;
            return -10 - position;
        }

        private static boolean addItem(Graph graph, int source, int label, int goal) {
            if (graph.target(source, label) >= 0 || graph.arcs >= MAX_ARCS) {
                return false;
            }
            graph.append(source, label, goal);
            graph.states = graph.statesNeeded();
            return true;
        }

        private static boolean canStand(int code, int place) {
            boolean digit = code >= '0' && code <= '9';
            switch (place) {
                case BETWEEN:
                    return digit || code == ' ';
                case LETTER:
                    return code >= 'a' && code <= 'h';
                case GOAL:
                    return digit;
                default:
                    return code == ' ';
            }
        }
    }

    /** A run of the net; its marking is filled in only when it is asked for, or has steps. */
    private static final class Run {
        private int steps = 0;
        private final Bits marking = new Bits();

        void become(Run other) {
            steps = other.steps;
            marking.become(other.marking);
        }
    }

    /** The remembered states, in a ring. */
    private static final class History {
        private final Graph[] graphs = new Graph[MAX_MOMENTS];
        private final Run[] runs = new Run[MAX_MOMENTS];
        private int oldest = 0;
        private int size = 0;

        History() {
            for (int i = 0; i < MAX_MOMENTS; i++) {
                graphs[i] = new Graph();
                runs[i] = new Run();
            }
        }

        void remember(Graph graph, Run run) {
            int slot = (oldest + size) % MAX_MOMENTS;
            graphs[slot].become(graph);
            runs[slot].become(run);
            if (size < MAX_MOMENTS) {
                size++;
            } else {
                oldest = (oldest + 1) % MAX_MOMENTS;
            }
        }

        void restore(Graph graph, Run run) {
            if (size > 0) {
                size--;
                int slot = (oldest + size) % MAX_MOMENTS;
                graph.become(graphs[slot]);
                run.become(runs[slot]);
            }
        }
    }

    /** How the events of a graph cross a set of states. */
    private static final class Crossing {
        // The events of which at least one arc enters the set, exits it, or does neither.
        private int entering = 0;
        private int exiting = 0;
        private int staying = 0;

        void measure(Graph graph, int set) {
            begin();
            for (int i = 0; i < graph.arcs; i++) {
                take(graph, i, set);
            }
        }

        /** Whether the set is a region if it is neither empty nor whole; if so, it is measured then. */
        boolean measureRegion(Graph graph, int set) {
            begin();
            // Most sets fail at one of the first arcs.
            for (int i = 0; i < graph.arcs && mixed() == 0; i++) {
                take(graph, i, set);
            }
            return mixed() == 0;
        }

        private void begin() {
            entering = 0;
            exiting = 0;
            staying = 0;
        }

        private void take(Graph graph, int arc, int set) {
            int bit = 1 << graph.event[arc];
            int before = set >> graph.from[arc] & 1;
            int after = set >> graph.to[arc] & 1;
            if (before == after) {
                staying |= bit;
            } else if (after == 1) {
                entering |= bit;
            } else {
                exiting |= bit;
            }
        }

        /** The events whose arcs do not all cross the set in the same way. */
        private int mixed() {
            return entering & exiting | entering & staying | exiting & staying;
        }

        int kindOf(int event) {
            if ((mixed() >> event & 1) != 0) {
                return 3;
            }
            if ((entering >> event & 1) != 0) {
                return 1;
            }
            return (exiting >> event & 1) != 0 ? 2 : 0;
        }
    }

    /** The regions and the separations of a graph. */
    private static final class Analysis {
        private final Crossing crossing = new Crossing();
        private final int[] all = new int[MAX_REGIONS];
        private int regionCount = 0;
        private final int[] minimal = new int[MAX_MINIMAL];
        private final int[] entering = new int[MAX_MINIMAL];
        private final int[] exiting = new int[MAX_MINIMAL];
        private int minimalCount = 0;
        // The separations in their order; those before pairCount are of kind 0.
        private final int[] first = new int[MAX_SEPARATIONS];
        private final int[] second = new int[MAX_SEPARATIONS];
        private int pairCount = 0;
        private int separationCount = 0;
        private final Bits solvable = new Bits();

        void study(Graph graph) {
            findRegions(graph);
            listSeparations(graph);
            findSolvable();
        }

        private void findRegions(Graph graph) {
            regionCount = 0;
            minimalCount = 0;
            int whole = graph.allStates();
            for (int set = 1; set < whole; set++) {
                if (crossing.measureRegion(graph, set) && regionCount < MAX_REGIONS) {
                    all[regionCount] = set;
                    regionCount++;
                    addIfMinimal(set);
                }
            }
        }

        private void addIfMinimal(int set) {
            // A subset has a smaller mask, so that the minimal regions inside the set are known already.
            for (int k = 0; k < minimalCount; k++) {
                if ((minimal[k] & ~set) == 0) {
                    return;
                }
            }
            if (minimalCount < MAX_MINIMAL) {
                minimal[minimalCount] = set;
                entering[minimalCount] = crossing.entering;
                exiting[minimalCount] = crossing.exiting;
                minimalCount++;
            }
        }

        private void listSeparations(Graph graph) {
            separationCount = 0;
            for (int s = 0; s < graph.states; s++) {
                for (int t = s + 1; t < graph.states; t++) {
                    addSeparation(s, t);
                }
            }
            pairCount = separationCount;
            int used = graph.usedEvents();
            for (int s = 0; s < graph.states; s++) {
                for (int e = 0; e < MAX_EVENTS; e++) {
                    if ((used >> e & 1) != 0 && graph.target(s, e) < 0) {
                        addSeparation(s, e);
                    }
                }
            }
        }

        private void addSeparation(int s, int other) {
            if (separationCount < MAX_SEPARATIONS) {
                first[separationCount] = s;
                second[separationCount] = other;
                separationCount++;
            }
        }

        private void findSolvable() {
            solvable.clear();
            for (int i = 0; i < separationCount; i++) {
                for (int k = 0; k < minimalCount; k++) {
                    if (solves(k, i)) {
                        solvable.put(i);
                        break;
                    }
                }
            }
        }

        boolean parts(int k, int s, int t) {
            return (minimal[k] >> s & 1) != (minimal[k] >> t & 1);
        }

        boolean prevents(int k, int s, int event) {
            return (exiting[k] >> event & 1) != 0 && (minimal[k] >> s & 1) == 0;
        }

        /** Whether the minimal region k solves the separation i. */
        boolean solves(int k, int i) {
            return i < pairCount ? parts(k, first[i], second[i]) : prevents(k, first[i], second[i]);
        }

        int countSeparations(int kind, boolean solved) {
            int begin = kind == 0 ? 0 : pairCount;
            int end = kind == 0 ? pairCount : separationCount;
            int found = 0;
            for (int i = begin; i < end; i++) {
                if (solvable.has(i) == solved) {
                    found++;
                }
            }
            return found;
        }

        /** The index of the unsolvable separation with the place k among these, from 0; -1 if there is none. */
        int unsolvedIndex(int k) {
            int before = 0;
            for (int i = 0; i < separationCount; i++) {
                if (!solvable.has(i)) {
                    if (before == k) {
                        return i;
                    }
                    before++;
                }
            }
            return -1;
        }

        /** The event that is to be split next for a repair of the studied graph; -1 if there is none. */
        int eventToSplit(Graph graph) {
            if (graph.unusedEvent() < 0) {
                return -1;
            }
            for (int i = pairCount; i < separationCount; i++) {
                if (!solvable.has(i) && graph.arcsWith(second[i]) >= 2) {
                    return second[i];
                }
            }
            return -1;
        }

        int smallestAround(int set) {
            int best = -1;
            for (int k = 0; k < regionCount; k++) {
                boolean around = (set & ~all[k]) == 0;
                if (around && (best < 0 || Integer.bitCount(all[k]) < Integer.bitCount(best))) {
                    best = all[k];
                }
            }
            return best;
        }
    }

    /** The net of a graph. */
    private static final class Net {
        // Each place solves a separation that those before it do not.
        private final int[] regionOf = new int[MAX_SEPARATIONS];
        private int placeCount = 0;
        // For each minimal region the separations that it solves.
        private final Bits[] solved = new Bits[MAX_MINIMAL];
        private final Bits[] inputs = new Bits[MAX_EVENTS];
        private final Bits[] outputs = new Bits[MAX_EVENTS];
        private final Bits initial = new Bits();
        private final Bits rest = new Bits();
        private int events = 0;

        Net() {
            for (int k = 0; k < MAX_MINIMAL; k++) {
                solved[k] = new Bits();
            }
            for (int e = 0; e < MAX_EVENTS; e++) {
                inputs[e] = new Bits();
                outputs[e] = new Bits();
            }
        }

        void build(Analysis analysis, int usedEvents) {
            events = usedEvents;
            findSolved(analysis);
            choosePlaces(analysis);
            dropRedundantPlaces();
            connect(analysis);
        }

        private void findSolved(Analysis analysis) {
            for (int k = 0; k < analysis.minimalCount; k++) {
                solved[k].clear();
                for (int i = 0; i < analysis.separationCount; i++) {
                    if (analysis.solves(k, i)) {
                        solved[k].put(i);
                    }
                }
            }
        }

        private void choosePlaces(Analysis analysis) {
            placeCount = 0;
            rest.become(analysis.solvable);
            while (placeCount < MAX_SEPARATIONS) {
                int best = -1;
                int most = 0;
                for (int k = 0; k < analysis.minimalCount; k++) {
                    int solving = solved[k].sizeShared(rest);
                    if (solving > most) {
                        best = k;
                        most = solving;
                    }
                }
                if (best < 0) {
                    break;
                }
                regionOf[placeCount] = best;
                placeCount++;
                rest.remove(solved[best]);
            }
        }

        private void dropRedundantPlaces() {
            int p = 0;
            for (int round = 0; round < MAX_SEPARATIONS && p < placeCount; round++) {
                if (solvedAlone(p) > 0) {
                    p++;
                } else {
                    removePlace(p);
                }
            }
        }

        private void removePlace(int place) {
            for (int p = place; p < placeCount - 1; p++) {
                regionOf[p] = regionOf[p + 1];
            }
            placeCount--;
        }

        /** How many separations a place alone of all places solves. */
        int solvedAlone(int place) {
            rest.become(solved[regionOf[place]]);
            for (int p = 0; p < placeCount; p++) {
                if (p != place) {
                    rest.remove(solved[regionOf[p]]);
                }
            }
            return rest.size();
        }

        private void connect(Analysis analysis) {
            initial.clear();
            for (int e = 0; e < MAX_EVENTS; e++) {
                inputs[e].clear();
                outputs[e].clear();
            }
            for (int p = 0; p < placeCount; p++) {
                int k = regionOf[p];
                if ((analysis.minimal[k] & 1) != 0) {
                    initial.put(p);
                }
                for (int e = 0; e < MAX_EVENTS; e++) {
                    if ((analysis.exiting[k] >> e & 1) != 0) {
                        inputs[e].put(p);
                    }
                    if ((analysis.entering[k] >> e & 1) != 0) {
                        outputs[e].put(p);
                    }
                }
            }
        }

        boolean canOccur(int event, Bits marking) {
            return (events >> event & 1) != 0 && marking.holds(inputs[event]) && !marking.meets(outputs[event]);
        }

        void occur(int event, Bits marking) {
            marking.remove(inputs[event]);
            marking.join(outputs[event]);
        }
    }

    /** The state graph of a net. */
    private static final class NetStates {
        private final Bits[] markings = new Bits[MAX_MARKINGS];
        // For the marking m and the event e the marking to which e leads, at m * MAX_EVENTS + e; -1 if it cannot occur.
        private final int[] targets = new int[MAX_MARKINGS * MAX_EVENTS];
        private final int[] stateOf = new int[MAX_MARKINGS];
        private final Bits goal = new Bits();
        private int markingCount = 0;
        private int arcCount = 0;
        private int deadCount = 0;
        private boolean tooLarge = false;

        NetStates() {
            for (int m = 0; m < MAX_MARKINGS; m++) {
                markings[m] = new Bits();
            }
        }

        void explore(Net net) {
            markings[0].become(net.initial);
            markingCount = 1;
            arcCount = 0;
            deadCount = 0;
            tooLarge = false;
            for (int m = 0; m < MAX_MARKINGS && m < markingCount && !tooLarge; m++) {
                int arcsBefore = arcCount;
                for (int e = 0; e < MAX_EVENTS; e++) {
                    targets[m * MAX_EVENTS + e] = follow(net, m, e);
                }
                if (arcCount == arcsBefore) {
                    deadCount++;
                }
            }
        }

        private int follow(Net net, int marking, int event) {
            if (!net.canOccur(event, markings[marking])) {
                return -1;
            }
            arcCount++;
            goal.become(markings[marking]);
            net.occur(event, goal);
            for (int m = 0; m < markingCount; m++) {
                if (markings[m].same(goal)) {
                    return m;
                }
            }
            if (markingCount >= MAX_MARKINGS) {
                tooLarge = true;
                return -1;
            }
            markings[markingCount].become(goal);
            markingCount++;
            return markingCount - 1;
        }

        /** Whether the markings and the reachable states of the graph belong together one to one. */
        boolean matches(Graph graph) {
            if (tooLarge) {
                return false;
            }
            for (int m = 0; m < markingCount; m++) {
                stateOf[m] = -1;
            }
            // No state is given to two markings: its marking is the set of the places whose regions contain it.
            stateOf[0] = 0;
            for (int m = 0; m < markingCount; m++) {
                // A marking behind the first one was found from one before it, so that its state is known here.
                for (int e = 0; e < MAX_EVENTS; e++) {
                    int marking = targets[m * MAX_EVENTS + e];
                    int state = graph.target(stateOf[m], e);
                    if (marking < 0 && state < 0) {
                        continue;
                    }
                    if (marking < 0 || state < 0) {
                        return false;
                    }
                    if (stateOf[marking] < 0) {
                        stateOf[marking] = state;
                    }
                    if (stateOf[marking] != state) {
                        return false;
                    }
                }
            }
            return true;
        }
    }
}
