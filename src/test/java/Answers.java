import java.util.ArrayList;
import java.util.List;

/** What the tests of answers share: the codes, graphs, and the count of answers that are not as due. */
class Answers {
    static final int BAD = -1, STATE = -2, FULL = -3, NONE = -9;
    // A diamond: a and b can occur in either order. Its minimal regions are 3, 5, 10, 12, its places 3 and 5.
    static final String DIAMOND = "0a1 0b2 1b3 2a3";
    // No region: the two arcs with a would have to enter or exit together.
    static final String CYCLE = "0a1 1a2 2b0";
    // Its minimal regions are {0,2} and {1,3}.
    static final String SHORTCUT = "0a1 1b2 2a3 3b0 0c2 2c0";
    // Nine arcs with all eight events, of which only a has two.
    static final String ALL_EVENTS = "0a1 1b2 2c3 3d4 4e5 5f6 6g7 7h8 8a9";

    private static String subject = "";
    private static int wrong = 0;
    private static int tested = 0;

    interface Call {
        long on(NetSynthesizer x);
    }

    interface Maker {
        NetSynthesizer make();
    }

    static void about(String what) {
        subject = what;
    }

    static void due(String what, long got, long want) {
        tested++;
        if (got != want) {
            wrong++;
            System.out.println(subject + ": " + what + " answered " + got + ", due is " + want);
        }
    }

    /** Tells how many answers were wrong, and ends the program if there was one. */
    static void end() {
        System.out.println(wrong == 0 ? tested + " answers are as due" : wrong + " answers are not as due");
        if (wrong != 0) {
            System.exit(1);
        }
    }

    static void write(NetSynthesizer x, String text) {
        x.clearText();
        for (char c : text.toCharArray()) {
            x.type(c);
        }
    }

    static NetSynthesizer graph(String text) {
        NetSynthesizer x = new NetSynthesizer();
        write(x, text);
        if (x.load() < 0) {
            due("load of " + text, -1, 0);
        }
        return x;
    }

    /** States with a number of arcs in all, eight from each state from 0 on, and all to the last state. */
    static NetSynthesizer crowd(int states, int arcs) {
        NetSynthesizer x = new NetSynthesizer();
        x.setStates(states);
        for (int i = 0; i < arcs; i++) {
            x.addArc(i / 8, i % 8, states - 1);
        }
        return x;
    }

    /** The diamond with a loop, a run with one step, a text with a fault that was found, and remembered states. */
    static NetSynthesizer lively() {
        NetSynthesizer x = graph(DIAMOND);
        x.addArc(3, 2, 3);
        x.fire(1);
        write(x, "0a1 0a2");
        x.load();
        return x;
    }

    /** As many remembered states as there can be, no two of them alike. */
    static NetSynthesizer longLived() {
        NetSynthesizer x = graph(DIAMOND);
        for (int i = 5; i <= 10; i++) {
            x.setStates(i);
        }
        x.addArc(3, 2, 3);
        x.fire(0);
        x.fire(1);
        return x;
    }

    /** All that can be seen of an object, its remembered states and its text too; the object is used up by it. */
    static List<Long> everything(NetSynthesizer x) {
        List<Long> seen = new ArrayList<>();
        seen.add((long) x.faultKind());
        seen.add(x.digest());
        for (int i = 0; i < 8 && x.undo() >= 0; i++) {
            seen.add(x.digest());
        }
        seen.add((long) x.load());
        seen.add((long) x.faultKind());
        seen.add(x.digest());
        return seen;
    }

    /** The call has the due answer, and an object on which it was made cannot be told from one without it. */
    static void silent(String what, Maker maker, Call call, long want) {
        NetSynthesizer x = maker.make();
        due(what, call.on(x), want);
        due(what + " changes nothing", everything(x).equals(everything(maker.make())) ? 1 : 0, 1);
    }

    static long sum(long... values) {
        long h = 17341;
        for (long v : values) {
            h = 31 * h + v;
        }
        return h;
    }

    /** The hash of an object that the document tells, out of what the other methods answer. */
    static long digestOf(NetSynthesizer x) {
        List<Integer> values = new ArrayList<>();
        for (int what = 0; what <= 6; what++) {
            values.add(x.count(what));
        }
        for (int i = 0; i < x.count(1); i++) {
            for (int what = 0; what <= 2; what++) {
                values.add(x.arc(i, what));
            }
        }
        values.add(x.regions(false));
        values.add(x.regions(true));
        for (int k = 0; k < x.regions(true); k++) {
            values.add(x.region(k, true));
        }
        for (int kind = 0; kind <= 1; kind++) {
            values.add(x.separations(kind, true));
            values.add(x.separations(kind, false));
        }
        for (int k = 0; x.unsolved(k) != NONE; k++) {
            values.add(x.unsolved(k));
        }
        values.add(x.places());
        for (int p = 0; p < x.places(); p++) {
            for (int what = 0; what <= 4; what++) {
                values.add(x.place(p, what));
            }
        }
        for (int what = 0; what <= 2; what++) {
            values.add(x.netGraph(what));
        }
        values.add(x.fits());
        values.add(x.enabled());
        return sum(values.stream().mapToLong(v -> v).toArray());
    }
}
