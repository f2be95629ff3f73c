/**
 * Tests what the document says of limits that no run of calls was found to reach, with a copy of the program (made
 * by Limits) in which at most 4 markings are found, and a text has at most 120 characters.
 */
public final class LimitTest extends Sentences {
    private static final String ARCS_24 = "0a1 0b1 0c1 0d1 0e1 0f1 0g1 0h1 1a2 1b2 1c2 1d2 1e2 1f2 1g2 1h2 "
        + "2a3 2b3 2c3 2d3 2e3 2f3 2g3 2h3";

    public static void main(String[] args) {
        markings();
        arcsOfText();
        endWith(args);
    }

    private static void markings() {
        sentence("At most 100 markings are found; if there are more, the state graph of the net is too large.");
        // As many as the limit: the last event leads to a marking that was found before.
        numbers(DIAMOND, 4, 4, 1, 1);
        numbers("0a1 1b2 2c3 3d0", 4, 4, 0, 1);
        numbers("0a1 0b2 0c3", 4, 3, 3, 1);
        // One more, at the end of a chain, or all from the first one.
        numbers("0a1 1b2 2c3 3d4", FULL, FULL, FULL, 0);
        numbers("0a1 0b2 0c3 0d4", FULL, FULL, FULL, 0);
        numbers("0a1 1b2 2c3 3d4 4e5 5f6 6g7 7h8 8h9", FULL, FULL, FULL, 0);
        // Four reachable states; but c can occur in the marking of 3, too, and leads to the one of 2.
        numbers("0c1 0e4 1f0 4a3 2f3", FULL, FULL, FULL, 0);

        sentence("FULL if the state graph is too large.");
        NetSynthesizer x = graph("0a1 1b2 2c3 3d4");
        due("netGraph(3): BAD and FULL", x.netGraph(3), BAD);
        due("netGraph(-1): BAD and FULL", x.netGraph(-1), BAD);
        due("digest()", x.digest(), digestOf(x));
        for (int e = 0; e < 4; e++) {
            due("enabled(): the run has no limit", x.enabled(), 1 << e);
            due("fire(" + e + ")", x.fire(e), e == 3 ? 0 : 1);
        }
        due("dropArc(3)", x.dropArc(3), 3);
        due("netGraph(0) with one marking less", x.netGraph(0), 4);
        due("fits() with one marking less", x.fits(), 1);
        due("undo()", x.undo(), 5);
        due("netGraph(0) with five again", x.netGraph(0), FULL);
        due("count(4): the run stays", x.count(4), 4);
    }

    private static void numbers(String text, int markings, int arcs, int dead, int fits) {
        NetSynthesizer x = graph(text);
        due("netGraph(0) of '" + text + "'", x.netGraph(0), markings);
        due("netGraph(1) of '" + text + "'", x.netGraph(1), arcs);
        due("netGraph(2) of '" + text + "'", x.netGraph(2), dead);
        due("fits() of '" + text + "'", x.fits(), fits);
    }

    private static void arcsOfText() {
        sentence("or there are 24 arcs (the index of its first character; it is found when its last character has been "
            + "read).");
        loading(ARCS_24, 24, 0);
        loading(ARCS_24 + " ", 24, 0);
        loading(ARCS_24 + " 3a0", -106, 2);
        loading(ARCS_24 + " 0a1", -106, 2);
        loading(ARCS_24 + "  3a0 x", -107, 2);
        loading(ARCS_24 + " 3a", -108, 1);
        loading(ARCS_24 + " 3ax", -108, 1);
        loading(ARCS_24 + " 3i0", -107, 1);
        NetSynthesizer x = graph(DIAMOND);
        write(x, ARCS_24 + " 9a9");
        due("load() of 25 arcs", x.load(), -106);
        due("count(0): nothing is changed", x.count(0), 4);
        due("count(1): nothing is changed", x.count(1), 4);
        due("count(6): nothing is changed", x.count(6), 1);
    }

    private static void loading(String text, int answer, int fault) {
        NetSynthesizer x = new NetSynthesizer();
        write(x, text);
        due("load() of '" + text + "'", x.load(), answer);
        due("faultKind() of '" + text + "'", x.faultKind(), fault);
    }
}
