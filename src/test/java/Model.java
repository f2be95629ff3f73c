import java.util.ArrayList;
import java.util.Arrays;
import java.util.HashSet;
import java.util.LinkedHashMap;
import java.util.LinkedHashSet;
import java.util.List;
import java.util.Map;
import java.util.Set;
import java.util.TreeSet;

/**
 * The document in its plainest words, with the Java library and without a thought of speed,
 * written apart from the program so that both can be compared. Nothing is kept but the graph,
 * the run, the text and the remembered states.
 */
final class Model {
    static final int BAD = -1, STATE = -2, FULL = -3, NONE = -9;

    record Arc(int from, int event, int to) { }

    record Moment(int states, List<Arc> arcs, int steps, Set<Set<Integer>> marking) { }

    record Separation(int kind, int s, int other) { }

    record Step(Set<Set<Integer>> from, int event, Set<Set<Integer>> to) { }

    private int states = 1;
    private List<Arc> arcs = new ArrayList<>();
    private int steps = 0;
    // A place is its region, and a marking is a set of places; null is the initial one.
    private Set<Set<Integer>> marking = null;
    private String text = "";
    private int fault = 0;
    private final List<Moment> moments = new ArrayList<>();

    // ---- definitions

    private static Set<Integer> members(int mask) {
        Set<Integer> set = new TreeSet<>();
        for (int i = 0; i < 31; i++) {
            if ((mask & (1 << i)) != 0) {
                set.add(i);
            }
        }
        return set;
    }

    private static int mask(Set<Integer> set) {
        int mask = 0;
        for (int i : set) {
            mask += 1 << i;
        }
        return mask;
    }

    private boolean noState(int s) {
        return s < 0 || s >= states;
    }

    private static boolean noEvent(int e) {
        return e < 0 || e > 7;
    }

    private boolean noSet(int set) {
        return set < 0 || set >= (int) Math.pow(2, states);
    }

    private static boolean enters(Arc a, Set<Integer> set) {
        return set.contains(a.to()) && !set.contains(a.from());
    }

    private static boolean exits(Arc a, Set<Integer> set) {
        return set.contains(a.from()) && !set.contains(a.to());
    }

    private static Set<Integer> used(List<Arc> arcs) {
        Set<Integer> used = new TreeSet<>();
        arcs.forEach(a -> used.add(a.event()));
        return used;
    }

    private static List<Arc> with(List<Arc> arcs, int event) {
        return arcs.stream().filter(a -> a.event() == event).toList();
    }

    private static int crossing(List<Arc> arcs, Set<Integer> set, int event) {
        List<Arc> own = with(arcs, event);
        if (own.stream().noneMatch(a -> enters(a, set) || exits(a, set))) {
            return 0;
        }
        if (own.stream().allMatch(a -> enters(a, set))) {
            return 1;
        }
        return own.stream().allMatch(a -> exits(a, set)) ? 2 : 3;
    }

    private static List<Set<Integer>> regionsOf(int states, List<Arc> arcs) {
        List<Set<Integer>> found = new ArrayList<>();
        for (int m = 0; m < 1 << states; m++) {
            Set<Integer> set = members(m);
            if (set.isEmpty() || set.size() == states) {
                continue;
            }
            if (used(arcs).stream().allMatch(e -> crossing(arcs, set, e) != 3)) {
                found.add(set);
            }
        }
        return found;
    }

    private static List<Set<Integer>> minimalOf(int states, List<Arc> arcs) {
        List<Set<Integer>> all = regionsOf(states, arcs);
        return all.stream().filter(r -> all.stream().noneMatch(q -> !q.equals(r) && r.containsAll(q))).toList();
    }

    private static int targetOf(List<Arc> arcs, int s, int e) {
        for (Arc a : arcs) {
            if (a.from() == s && a.event() == e) {
                return a.to();
            }
        }
        return NONE;
    }

    private static List<Separation> separationsOf(int states, List<Arc> arcs) {
        List<Separation> list = new ArrayList<>();
        for (int s = 0; s < states; s++) {
            for (int t = 0; t < states; t++) {
                if (s < t) {
                    list.add(new Separation(0, s, t));
                }
            }
        }
        for (int s = 0; s < states; s++) {
            for (int e : used(arcs)) {
                if (targetOf(arcs, s, e) == NONE) {
                    list.add(new Separation(1, s, e));
                }
            }
        }
        return list;
    }

    private static boolean solves(List<Arc> arcs, Set<Integer> region, Separation x) {
        if (x.kind() == 0) {
            return region.contains(x.s()) ^ region.contains(x.other());
        }
        return crossing(arcs, region, x.other()) == 2 && !region.contains(x.s());
    }

    private static Set<Separation> solvedBy(int states, List<Arc> arcs, Iterable<Set<Integer>> regions) {
        Set<Separation> solved = new LinkedHashSet<>();
        for (Separation x : separationsOf(states, arcs)) {
            for (Set<Integer> r : regions) {
                if (solves(arcs, r, x)) {
                    solved.add(x);
                }
            }
        }
        return solved;
    }

    private static List<Separation> unsolvableOf(int states, List<Arc> arcs) {
        Set<Separation> solved = solvedBy(states, arcs, minimalOf(states, arcs));
        return separationsOf(states, arcs).stream().filter(x -> !solved.contains(x)).toList();
    }

    // ---- the net

    // Found once for each graph, for only this would take the tests too long.
    private String netKey = "";
    private List<Set<Integer>> netKept = null;

    private List<Set<Integer>> net() {
        String key = states + " " + arcs;
        if (!key.equals(netKey)) {
            netKept = buildNet();
            netKey = key;
        }
        return netKept;
    }

    private List<Set<Integer>> buildNet() {
        List<Set<Integer>> minimal = minimalOf(states, arcs);
        Map<Set<Integer>, Set<Separation>> solved = new LinkedHashMap<>();
        for (Set<Integer> r : minimal) {
            solved.put(r, solvedBy(states, arcs, List.of(r)));
        }
        List<Set<Integer>> places = new ArrayList<>();
        Set<Separation> open = solvedBy(states, arcs, minimal);
        while (!open.isEmpty()) {
            Set<Integer> best = null;
            long most = -1;
            for (Set<Integer> r : minimal) {
                long n = open.stream().filter(solved.get(r)::contains).count();
                if (n > most) {
                    most = n;
                    best = r;
                }
            }
            places.add(best);
            open.removeAll(solved.get(best));
        }
        for (Set<Integer> p : List.copyOf(places)) {
            List<Set<Integer>> others = new ArrayList<>(places);
            others.remove(p);
            if (solvedBy(states, arcs, others).equals(solvedBy(states, arcs, places))) {
                places = others;
            }
        }
        return places;
    }

    private Set<Set<Integer>> initial() {
        Set<Set<Integer>> first = new HashSet<>();
        for (Set<Integer> p : net()) {
            if (p.contains(0)) {
                first.add(p);
            }
        }
        return first;
    }

    /** The marking to which an event leads; null if it cannot occur. */
    private Set<Set<Integer>> after(Set<Set<Integer>> m, int event) {
        if (!used(arcs).contains(event)) {
            return null;
        }
        Set<Set<Integer>> result = new HashSet<>(m);
        for (Set<Integer> p : net()) {
            int c = crossing(arcs, p, event);
            if (c == 2 && !m.contains(p) || c == 1 && m.contains(p)) {
                return null;
            }
            if (c == 2) {
                result.remove(p);
            }
            if (c == 1) {
                result.add(p);
            }
        }
        return result;
    }

    /** The markings with their steps; null if they are too many. */
    private Map<Set<Set<Integer>>, List<Step>> netStates() {
        Map<Set<Set<Integer>>, List<Step>> graph = new LinkedHashMap<>();
        List<Set<Set<Integer>>> queue = new ArrayList<>(List.of(initial()));
        graph.put(initial(), new ArrayList<>());
        while (!queue.isEmpty()) {
            Set<Set<Integer>> m = queue.remove(0);
            for (int e = 0; e < 8; e++) {
                Set<Set<Integer>> next = after(m, e);
                if (next == null) {
                    continue;
                }
                graph.get(m).add(new Step(m, e, next));
                if (!graph.containsKey(next)) {
                    graph.put(next, new ArrayList<>());
                    queue.add(next);
                    if (graph.size() > 100) {
                        return null;
                    }
                }
            }
        }
        return graph;
    }

    private Set<Integer> reachable() {
        Set<Integer> reached = new TreeSet<>(Set.of(0));
        boolean more = true;
        while (more) {
            more = false;
            for (Arc a : arcs) {
                if (reached.contains(a.from()) && reached.add(a.to())) {
                    more = true;
                }
            }
        }
        return reached;
    }

    /** Tries every relation, marking by marking. */
    private boolean related(List<Set<Set<Integer>>> markings, Map<Set<Set<Integer>>, List<Step>> graph,
            List<Integer> chosen, Set<Integer> free) {
        if (chosen.size() == markings.size()) {
            return free.isEmpty();
        }
        for (int s : List.copyOf(free)) {
            if (chosen.isEmpty() && s != 0) {
                continue;
            }
            chosen.add(s);
            free.remove(s);
            if (agrees(markings, graph, chosen) && related(markings, graph, chosen, free)) {
                return true;
            }
            chosen.remove(chosen.size() - 1);
            free.add(s);
        }
        return false;
    }

    private boolean agrees(List<Set<Set<Integer>>> markings, Map<Set<Set<Integer>>, List<Step>> graph,
            List<Integer> chosen) {
        int last = chosen.size() - 1;
        for (int i = 0; i <= last; i++) {
            for (int[] pair : new int[][] {{i, last}, {last, i}}) {
                for (int e = 0; e < 8; e++) {
                    Step step = new Step(markings.get(pair[0]), e, markings.get(pair[1]));
                    Arc arc = new Arc(chosen.get(pair[0]), e, chosen.get(pair[1]));
                    if (graph.get(step.from()).contains(step) != arcs.contains(arc)) {
                        return false;
                    }
                }
            }
        }
        return true;
    }

    // ---- changes

    private Set<Set<Integer>> marking() {
        return marking == null ? initial() : marking;
    }

    private void remember() {
        moments.add(new Moment(states, List.copyOf(arcs), steps, marking));
        if (moments.size() > 8) {
            moments.remove(0);
        }
    }

    private void change(int newStates, List<Arc> newArcs) {
        remember();
        states = newStates;
        arcs = new ArrayList<>(newArcs);
        steps = 0;
        marking = null;
    }

    private static List<Arc> plus(List<Arc> arcs, Arc arc) {
        List<Arc> more = new ArrayList<>(arcs);
        more.add(arc);
        return more;
    }

    private static int freeEvent(List<Arc> arcs) {
        for (int e = 0; e < 8; e++) {
            if (!used(arcs).contains(e)) {
                return e;
            }
        }
        return NONE;
    }

    private static int splitError(List<Arc> arcs, int event) {
        if (noEvent(event)) {
            return BAD;
        }
        if (with(arcs, event).size() < 2) {
            return STATE;
        }
        return freeEvent(arcs) == NONE ? FULL : 0;
    }

    private static List<Arc> splitArcs(List<Arc> arcs, int event) {
        int greatest = with(arcs, event).stream().mapToInt(Arc::from).max().orElseThrow();
        int fresh = freeEvent(arcs);
        return arcs.stream().map(a -> a.event() == event && a.from() == greatest ? new Arc(greatest, fresh, a.to()) : a)
            .toList();
    }

    private int arcError(int from, int event, int to) {
        if (noState(from) || noEvent(event) || noState(to)) {
            return BAD;
        }
        if (targetOf(arcs, from, event) != NONE) {
            return STATE;
        }
        return arcs.size() == 24 ? FULL : 0;
    }

    // ---- the face

    int type(int code) {
        if (code < 32 || code > 126) {
            return BAD;
        }
        if (text.length() == 80) {
            return FULL;
        }
        text += (char) code;
        return text.length();
    }

    int clearText() {
        int n = text.length();
        text = "";
        return n;
    }

    private int faulty(int kind, int position) {
        fault = kind;
        return -10 - position;
    }

    int load() {
        List<Arc> read = new ArrayList<>();
        int i = 0;
        while (i < text.length()) {
            if (text.charAt(i) == ' ') {
                i++;
                continue;
            }
            if (i > 0 && text.charAt(i - 1) != ' ') {
                return faulty(1, i);
            }
            String[] wanted = {"[0-9]", "[a-h]", "[0-9]"};
            for (int k = 0; k < 3; k++) {
                if (i + k >= text.length()) {
                    return faulty(1, text.length());
                }
                if (!text.substring(i + k, i + k + 1).matches(wanted[k])) {
                    return faulty(1, i + k);
                }
            }
            Arc arc = new Arc(text.charAt(i) - '0', text.charAt(i + 1) - 'a', text.charAt(i + 2) - '0');
            if (targetOf(read, arc.from(), arc.event()) != NONE || read.size() == 24) {
                return faulty(2, i);
            }
            read.add(arc);
            i += 3;
        }
        fault = 0;
        int greatest = read.stream().mapToInt(a -> Math.max(a.from(), a.to())).max().orElse(0);
        change(greatest + 1, read);
        return read.size();
    }

    int faultKind() {
        return fault;
    }

    int setStates(int n) {
        if (n < 1 || n > 10) {
            return BAD;
        }
        if (arcs.stream().anyMatch(a -> a.from() >= n || a.to() >= n)) {
            return STATE;
        }
        int before = states;
        change(n, arcs);
        return before;
    }

    int addArc(int from, int event, int to) {
        int error = arcError(from, event, to);
        if (error != 0) {
            return error;
        }
        change(states, plus(arcs, new Arc(from, event, to)));
        return arcs.size() - 1;
    }

    int dropArc(int arc) {
        if (arc < 0 || arc >= arcs.size()) {
            return BAD;
        }
        List<Arc> fewer = new ArrayList<>(arcs);
        fewer.remove(arc);
        change(states, fewer);
        return arcs.size();
    }

    int arc(int arc, int what) {
        if (arc < 0 || arc >= arcs.size() || what < 0 || what > 2) {
            return BAD;
        }
        Arc a = arcs.get(arc);
        return List.of(a.from(), a.event(), a.to()).get(what);
    }

    int next(int state, int event) {
        return noState(state) || noEvent(event) ? BAD : targetOf(arcs, state, event);
    }

    int split(int event) {
        int error = splitError(arcs, event);
        if (error != 0) {
            return error;
        }
        int fresh = freeEvent(arcs);
        change(states, splitArcs(arcs, event));
        return fresh;
    }

    int repair() {
        List<Arc> repaired = arcs;
        int splits = 0;
        boolean more = true;
        while (more) {
            more = false;
            for (Separation x : unsolvableOf(states, repaired)) {
                if (x.kind() == 1 && splitError(repaired, x.other()) == 0) {
                    repaired = splitArcs(repaired, x.other());
                    splits++;
                    more = true;
                    break;
                }
            }
        }
        change(states, repaired);
        return splits;
    }

    private List<Set<Integer>> regionList(boolean minimal) {
        return minimal ? minimalOf(states, arcs) : regionsOf(states, arcs);
    }

    int regions(boolean minimal) {
        return regionList(minimal).size();
    }

    int region(int k, boolean minimal) {
        if (k < 0) {
            return BAD;
        }
        List<Set<Integer>> list = regionList(minimal);
        return k < list.size() ? mask(list.get(k)) : NONE;
    }

    int crosses(int set, int event) {
        return noSet(set) || noEvent(event) ? BAD : crossing(arcs, members(set), event);
    }

    int regionAround(int set) {
        if (noSet(set)) {
            return BAD;
        }
        for (int size = 0; size <= states; size++) {
            for (Set<Integer> r : regionsOf(states, arcs)) {
                if (r.size() == size && r.containsAll(members(set))) {
                    return mask(r);
                }
            }
        }
        return NONE;
    }

    int separations(int kind, boolean solved) {
        if (kind != 0 && kind != 1) {
            return BAD;
        }
        int all = (int) separationsOf(states, arcs).stream().filter(x -> x.kind() == kind).count();
        int not = (int) unsolvableOf(states, arcs).stream().filter(x -> x.kind() == kind).count();
        return solved ? all - not : not;
    }

    private int firstSolver(Separation x) {
        for (Set<Integer> r : minimalOf(states, arcs)) {
            if (solves(arcs, r, x)) {
                return mask(r);
            }
        }
        return NONE;
    }

    int solver(int s, int t) {
        return noState(s) || noState(t) || s == t ? BAD : firstSolver(new Separation(0, s, t));
    }

    int preventer(int s, int event) {
        if (noState(s) || noEvent(event)) {
            return BAD;
        }
        if (!used(arcs).contains(event) || targetOf(arcs, s, event) != NONE) {
            return STATE;
        }
        return firstSolver(new Separation(1, s, event));
    }

    int unsolved(int k) {
        if (k < 0) {
            return BAD;
        }
        List<Separation> list = unsolvableOf(states, arcs);
        if (k >= list.size()) {
            return NONE;
        }
        return 1000 * list.get(k).kind() + 100 * list.get(k).s() + list.get(k).other();
    }

    int places() {
        return net().size();
    }

    private int eventsCrossing(Set<Integer> region, int way) {
        return mask(new TreeSet<>(List.of(0, 1, 2, 3, 4, 5, 6, 7).stream()
            .filter(e -> crossing(arcs, region, e) == way).toList()));
    }

    int place(int place, int what) {
        List<Set<Integer>> net = net();
        if (place < 0 || place >= net.size() || what < 0 || what > 4) {
            return BAD;
        }
        Set<Integer> region = net.get(place);
        switch (what) {
            case 0: return mask(region);
            case 1: return eventsCrossing(region, 2);
            case 2: return eventsCrossing(region, 1);
            case 3: return marking().contains(region) ? 1 : 0;
            default:
                List<Set<Integer>> others = new ArrayList<>(net);
                others.remove(place);
                return solvedBy(states, arcs, net).size() - solvedBy(states, arcs, others).size();
        }
    }

    int netGraph(int what) {
        if (what < 0 || what > 2) {
            return BAD;
        }
        Map<Set<Set<Integer>>, List<Step>> graph = netStates();
        if (graph == null) {
            return FULL;
        }
        if (what == 0) {
            return graph.size();
        }
        if (what == 1) {
            return graph.values().stream().mapToInt(List::size).sum();
        }
        return (int) graph.values().stream().filter(List::isEmpty).count();
    }

    int fits() {
        Map<Set<Set<Integer>>, List<Step>> graph = netStates();
        if (graph == null || graph.size() != reachable().size()) {
            return 0;
        }
        List<Set<Set<Integer>>> markings = new ArrayList<>(graph.keySet());
        return related(markings, graph, new ArrayList<>(), reachable()) ? 1 : 0;
    }

    int enabled() {
        int set = 0;
        for (int e = 0; e < 8; e++) {
            if (after(marking(), e) != null) {
                set += 1 << e;
            }
        }
        return set;
    }

    int fire(int event) {
        if (noEvent(event)) {
            return BAD;
        }
        Set<Set<Integer>> next = after(marking(), event);
        if (next == null) {
            return STATE;
        }
        remember();
        marking = next;
        steps++;
        return next.size();
    }

    int restart() {
        int before = steps;
        remember();
        marking = null;
        steps = 0;
        return before;
    }

    int ifArc(int from, int event, int to) {
        int error = arcError(from, event, to);
        return error != 0 ? error : unsolvableOf(states, plus(arcs, new Arc(from, event, to))).size();
    }

    int ifSplit(int event) {
        int error = splitError(arcs, event);
        return error != 0 ? error : unsolvableOf(states, splitArcs(arcs, event)).size();
    }

    int undo() {
        if (moments.isEmpty()) {
            return STATE;
        }
        Moment last = moments.remove(moments.size() - 1);
        states = last.states();
        arcs = new ArrayList<>(last.arcs());
        steps = last.steps();
        marking = last.marking();
        return moments.size();
    }

    int count(int what) {
        switch (what) {
            case 0: return states;
            case 1: return arcs.size();
            case 2: return used(arcs).size();
            case 3: return reachable().size();
            case 4: return steps;
            case 5: return text.length();
            case 6: return moments.size();
            default: return BAD;
        }
    }

    long digest() {
        List<Integer> values = new ArrayList<>();
        for (int what = 0; what <= 6; what++) {
            values.add(count(what));
        }
        for (Arc a : arcs) {
            values.addAll(Arrays.asList(a.from(), a.event(), a.to()));
        }
        values.add(regions(false));
        values.add(regions(true));
        minimalOf(states, arcs).forEach(r -> values.add(mask(r)));
        for (int kind = 0; kind < 2; kind++) {
            values.add(separations(kind, true));
            values.add(separations(kind, false));
        }
        unsolvableOf(states, arcs).forEach(x -> values.add(1000 * x.kind() + 100 * x.s() + x.other()));
        values.add(places());
        for (int p = 0; p < places(); p++) {
            for (int what = 0; what <= 4; what++) {
                values.add(place(p, what));
            }
        }
        values.add(netGraph(0));
        values.add(netGraph(1));
        values.add(netGraph(2));
        values.add(fits());
        values.add(enabled());
        long h = 17341;
        for (int v : values) {
            h = 31 * h + v;
        }
        return h;
    }
}
