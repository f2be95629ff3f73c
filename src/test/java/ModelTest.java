import java.util.Random;

/** Compares the program with the model in runs of random calls, always the same ones. */
public final class ModelTest {
    private static final int RUNS = 800;
    // Each of these is up to some fifty calls: an object is used for at most 512.
    private static final int CALLS = 60;
    private static final String[] GRAPHS = {
        "0a1 1a2 2b0", "0a1 0b2 1b3 2a3", "0a1 1b2 2a3 3b0 0c2 2c0", "0a1 1a2 2a3 3a4 4a5 5a0",
        "0a1 0b2 0c3 1b4 1c5 2a4 2c6 3a5 3b6 4c7 5b7 6a7", "0a0 1b2 2c3 4d5 5e6", "0a1 2b3 4c5 6d7 8e9",
        "0a1 1b2 2c3 3d4 4e5 5f6 6g7 7h8 8a9", "0a1 1b0 2a3 3b2 4c5", "0a1 1a0 0b2 2b0 1b3 3b1",
        "0a1 2b3 4c5 6d7 8e9 9f0 1g2 3h4", "0a1 0b1 1c2 1d2 2a3 2b3 3c0", "0a1 1b1 1c2 2b2 2d0", "9a8 8b7 7c6",
        "2c8 9c5 9a3 1h3 6g0 0a1 3d7 8a6 7a4 7e2", "9c0 9f7 8f5 5g2 2a4 8b1 9g3 0d1 1c8 9f1 9f8 4e6 4h9 1h6",
        "3f0 2b1 3e2 5f2 4b3 3c4", "3a6 5b0 2c4 3c1 4a5", "7c1 3d6 3e0 1d6 2d2 0e4 1a1 5f6 2b7",
        "0a5 7b8 5c7 8d3 6e2 3f2 9g4 2h0 6b1 0b9 3g1", "2b4 6a5 3a4 6b0", "1a3 2c1 3c4 3b0 5b2",
    };

    private final Random random;
    private final NetSynthesizer program = new NetSynthesizer();
    private final Model model = new Model();
    private final StringBuilder calls = new StringBuilder();
    private int wrong = 0;
    static int tooLarge = 0, fitting = 0, unfitting = 0, deep = 0;

    private ModelTest(int seed) {
        random = new Random(seed);
    }

    public static void main(String[] args) {
        int runs = args.length > 0 ? Integer.parseInt(args[0]) : RUNS;
        int first = args.length > 1 ? Integer.parseInt(args[1]) : 0;
        int wrong = 0;
        for (int i = first; i < first + runs; i++) {
            wrong += new ModelTest(i).run(i);
        }
        System.out.println(wrong == 0 ? runs + " runs agree with the model" : wrong + " runs do not agree with the model");
        System.out.println("nets too large: " + tooLarge + ", fitting: " + fitting + ", not fitting: " + unfitting
            + ", steps: " + deep);
        if (wrong != 0) {
            System.exit(1);
        }
    }

    private int run(int number) {
        for (int i = 0; i < CALLS && wrong == 0; i++) {
            int kind = random.nextInt(100);
            if (kind < 6) {
                loadSome();
            } else if (kind < 20) {
                walk();
            } else {
                call(random.nextInt(33));
            }
            if (i % 20 == 19) {
                same("digest()", program.digest(), model.digest());
            }
        }
        if (wrong != 0) {
            System.out.println("run " + number + ":\n" + calls);
        }
        return wrong;
    }

    private void same(String call, long got, long want) {
        calls.append(call).append(' ').append(got).append('\n');
        if (got != want) {
            wrong++;
            calls.append("  due is ").append(want).append('\n');
        }
    }

    private void loadSome() {
        same("clearText()", program.clearText(), model.clearText());
        String text;
        switch (random.nextInt(4)) {
            case 0: text = GRAPHS[random.nextInt(GRAPHS.length)]; break;
            case 1: text = randomText(1 + random.nextInt(10), 1 + random.nextInt(8)); break;
            case 2: text = randomTree(2 + random.nextInt(9), 1 + random.nextInt(8)); break;
            default: text = spoilt(GRAPHS[random.nextInt(GRAPHS.length)]);
        }
        for (char c : text.toCharArray()) {
            same("type(" + (int) c + ")", program.type(c), model.type(c));
        }
        same("load() of '" + text + "'", program.load(), model.load());
        same("faultKind()", program.faultKind(), model.faultKind());
    }

    private String randomText(int states, int events) {
        StringBuilder text = new StringBuilder();
        for (int i = random.nextInt(14); i >= 0; i--) {
            text.append(random.nextInt(states)).append((char) ('a' + random.nextInt(events)));
            text.append(random.nextInt(states)).append(" ".repeat(1 + random.nextInt(8) / 7));
        }
        return text.toString();
    }

    private String randomTree(int states, int events) {
        StringBuilder text = new StringBuilder();
        for (int s = 1; s < states; s++) {
            text.append(random.nextInt(s)).append((char) ('a' + random.nextInt(events))).append(s).append(' ');
        }
        return text.toString();
    }

    private String spoilt(String text) {
        int at = random.nextInt(text.length());
        switch (random.nextInt(3)) {
            case 0: return text.substring(0, at);
            case 1: return text.substring(0, at) + (char) (32 + random.nextInt(95)) + text.substring(at);
            default: return text.substring(0, at) + (char) (32 + random.nextInt(95)) + text.substring(at + 1);
        }
    }

    /** Lets some events occur one after the other. */
    private void walk() {
        for (int i = 0; i < 4; i++) {
            int events = program.enabled();
            same("enabled()", events, model.enabled());
            int e = random.nextInt(8);
            for (int k = 0; k < 8 && (events >> e & 1) == 0; k++) {
                e = (e + 1) % 8;
            }
            same("fire(" + e + ")", program.fire(e), model.fire(e));
            deep = Math.max(deep, program.count(4));
        }
    }

    private int number(int limit) {
        return random.nextInt(limit + 4) - 2;
    }

    private int state() {
        int n = program.count(0);
        switch (random.nextInt(12)) {
            case 0: return n;
            case 1: return -1;
            default: return random.nextInt(n);
        }
    }

    private int event() {
        return random.nextInt(10) == 0 ? number(8) : random.nextInt(8);
    }

    private int set() {
        int all = 1 << program.count(0);
        switch (random.nextInt(10)) {
            case 0: return all;
            case 1: return all - 1;
            case 2: return -1;
            case 3: return 1 << random.nextInt(10);
            default: return random.nextInt(all);
        }
    }

    private void call(int what) {
        int a, b, c;
        boolean f = random.nextBoolean();
        switch (what) {
            case 0: a = 30 + random.nextInt(99);
                same("type(" + a + ")", program.type(a), model.type(a)); break;
            case 1: same("clearText()", program.clearText(), model.clearText()); break;
            case 2: same("load()", program.load(), model.load()); break;
            case 3: same("faultKind()", program.faultKind(), model.faultKind()); break;
            case 4: a = number(10);
                same("setStates(" + a + ")", program.setStates(a), model.setStates(a)); break;
            case 5: case 31: case 32:
                for (int i = random.nextInt(4); i >= 0; i--) {
                    a = state(); b = event(); c = state();
                    same("addArc(" + a + "," + b + "," + c + ")", program.addArc(a, b, c), model.addArc(a, b, c));
                }
                break;
            case 6: a = number(program.count(1));
                same("dropArc(" + a + ")", program.dropArc(a), model.dropArc(a)); break;
            case 7: a = number(program.count(1)); b = number(3);
                same("arc(" + a + "," + b + ")", program.arc(a, b), model.arc(a, b)); break;
            case 8: a = state(); b = event();
                same("next(" + a + "," + b + ")", program.next(a, b), model.next(a, b)); break;
            case 9: a = event();
                same("split(" + a + ")", program.split(a), model.split(a)); break;
            case 10:
                if (random.nextInt(4) == 0) {
                    same("repair()", program.repair(), model.repair());
                }
                break;
            case 11: same("regions(" + f + ")", program.regions(f), model.regions(f)); break;
            case 12: a = number(program.regions(f));
                same("region(" + a + "," + f + ")", program.region(a, f), model.region(a, f)); break;
            case 13: a = set(); b = event();
                same("crosses(" + a + "," + b + ")", program.crosses(a, b), model.crosses(a, b)); break;
            case 14: a = set();
                same("regionAround(" + a + ")", program.regionAround(a), model.regionAround(a)); break;
            case 15: a = number(2);
                same("separations(" + a + "," + f + ")", program.separations(a, f), model.separations(a, f)); break;
            case 16: a = state(); b = state();
                same("solver(" + a + "," + b + ")", program.solver(a, b), model.solver(a, b)); break;
            case 17: a = state(); b = event();
                same("preventer(" + a + "," + b + ")", program.preventer(a, b), model.preventer(a, b)); break;
            case 18: a = number(10);
                same("unsolved(" + a + ")", program.unsolved(a), model.unsolved(a)); break;
            case 19: same("places()", program.places(), model.places()); break;
            case 20: a = number(program.places()); b = number(5);
                same("place(" + a + "," + b + ")", program.place(a, b), model.place(a, b)); break;
            case 21: a = number(3); b = program.netGraph(a);
                same("netGraph(" + a + ")", b, model.netGraph(a));
                tooLarge += b == -3 ? 1 : 0;
                break;
            case 22: a = program.fits();
                same("fits()", a, model.fits());
                fitting += a;
                unfitting += 1 - a;
                break;
            case 23: same("enabled()", program.enabled(), model.enabled()); break;
            case 24: a = event();
                same("fire(" + a + ")", program.fire(a), model.fire(a)); break;
            case 25: same("restart()", program.restart(), model.restart()); break;
            case 26: a = state(); b = event(); c = state();
                same("ifArc(" + a + "," + b + "," + c + ")", program.ifArc(a, b, c), model.ifArc(a, b, c)); break;
            case 27: a = event();
                same("ifSplit(" + a + ")", program.ifSplit(a), model.ifSplit(a)); break;
            case 28:
                for (int i = random.nextInt(12); i >= 0; i--) {
                    same("undo()", program.undo(), model.undo());
                    i -= random.nextInt(3);
                }
                break;
            case 29: a = number(7);
                same("count(" + a + ")", program.count(a), model.count(a)); break;
            default: a = 1 + random.nextInt(10);
                same("setStates(" + a + ")", program.setStates(a), model.setStates(a));
        }
    }
}
