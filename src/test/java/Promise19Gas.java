/** Promise 19: gas. */
final class Promise19Gas {
    private Promise19Gas() {
    }

    static void tests(Edge edge) {
        numbers(edge);
        howFar(edge);
        sum(edge);
        leastAndGreatest(edge);
        noneIsLet(edge);
        asKnownAtTheClock(edge);
        asksAlone(edge);
    }

    private static void numbers(Edge edge) {
        edge.sentence(19, "GAS: the least (high false), the greatest. NONE for others");
        SeamFire x = Edge.seam(2, 2, 1, 999);
        x.state(0, 99);
        edge.is("gas(0, 0, true) of no HOUSE", -1, x.gas(0, 0, true));
        x.house(0, 9, 1);
        edge.is("gas(0, 0, true)", 0, x.gas(0, 0, true));
        edge.is("gas(0, 98, true)", 0, x.gas(0, 98, true));
        edge.is("gas(0, 99, true)", 36, x.gas(0, 99, true));
        edge.is("gas(1, 0, true) of one HOUSE", -1, x.gas(1, 0, true));
        for (boolean high : new boolean[] {false, true}) {
            for (int v : new int[] {-1, Edge.MIN, Edge.MAX}) {
                edge.refusedAlways("gas(" + v + ", 0, " + high + ")", -1, o -> o.gas(v, 0, high));
                edge.refusedAlways("gas(0, " + v + ", " + high + ")", -1, o -> o.gas(0, v, high));
            }
            edge.refusedAlways("gas(20, 0, " + high + ")", -1, o -> o.gas(20, 0, high));
            edge.refusedAlways("gas(0, 100, " + high + ")", -1, o -> o.gas(0, 100, high));
            edge.refused("gas(3, 0, " + high + ")", -1, o -> o.gas(3, 0, high), World.BEGUN, World.LATER, World.READ,
                    World.ENDED);
        }
    }

    /** All pairs of cells, so that rows' ends are there too. */
    private static void howFar(Edge edge) {
        edge.sentence(19, "CELLS that BURN not more than 3 away (dx and dy together), of 4 less how far");
        int[][] sizes = {{8, 8}, {2, 8}, {8, 2}, {5, 4}, {3, 7}};
        for (int[] size : sizes) {
            int w = size[0];
            int cells = w * size[1];
            for (int fire = 0; fire < cells; fire++) {
                for (int from = 0; from < cells; from += 20) {
                    oneFire(edge, w, size[1], fire, from);
                }
            }
        }
    }

    private static void oneFire(Edge edge, int w, int h, int fire, int from) {
        SeamFire x = new SeamFire(w, h);
        x.cell(fire, 1, 999);
        x.state(fire, 0);
        for (int i = 0; i < 20 && from + i < w * h; i++) {
            int c = from + i;
            int far = Math.abs(c % w - fire % w) + Math.abs(c / w - fire / w);
            x.house(c, 1, 1);
            edge.is("GAS above " + c + " of " + fire + " in " + w + " by " + h, Math.max(0, 4 - far),
                    x.gas(i, 0, true));
        }
    }

    private static void sum(Edge edge) {
        edge.sentence(19, "CRACKS times the sum");
        SeamFire x = Edge.seam(5, 4, 1, 999);
        x.rules(1, 1, 0);
        x.state(0, 0);
        for (int c = 0; c < 20; c++) {
            x.hole(c);
        }
        x.house(12, 9, 1);
        x.house(12, 0, 1);
        x.house(19, 1, 1);
        edge.is("all twenty BURN", 20, x.lost(0, 7));
        // 4 itself, 4 at 1, 6 and 1 more at 2 (two of eight are outside), then those at 3.
        int want = 0;
        for (int c = 0; c < 20; c++) {
            want += Math.max(0, 4 - Math.abs(c % 5 - 2) - Math.abs(c / 5 - 2));
        }
        edge.is("gas(0, 7, true)", 9 * want, x.gas(0, 7, true));
        edge.is("gas(1, 7, true) of CRACKS 0", 0, x.gas(1, 7, true));
        edge.is("gas(2, 7, true) in a corner", 4 + 2 * 3 + 3 * 2 + 4, x.gas(2, 7, true));
        SeamFire y = Edge.drawn(10, "cc", "..");
        y.rules(1, 10, 0);
        y.state(0, 0);
        y.hole(0);
        y.hole(1);
        y.house(0, 1, 1);
        edge.is("BURNT ones give none", 3, y.gas(0, 1, true));
        edge.is("none BURNS", 0, y.gas(0, 2, true));
    }

    private static void leastAndGreatest(Edge edge) {
        edge.sentence(19, "least and greatest of STATES that are LET");
        SeamFire x = Edge.drawn(999, "cccccc", "......");
        x.house(0, 2, 1);
        x.state(2, 0);
        edge.is("of one: least", 4, x.gas(0, 0, false));
        edge.is("of one: greatest", 4, x.gas(0, 0, true));
        x.state(0, 0);
        edge.is("a nearer one: least", 4, x.gas(0, 0, false));
        edge.is("a nearer one: greatest", 8, x.gas(0, 0, true));
        x.state(3, 0);
        edge.is("3 away: least", 2, x.gas(0, 0, false));
        x.state(4, 0);
        edge.is("4 away: least", 0, x.gas(0, 0, false));
        for (int i = 4; i < 8; i++) {
            x.state(1, 0);
        }
        edge.is("of eight: least", 0, x.gas(0, 0, false));
        edge.is("of eight: greatest", 8, x.gas(0, 0, true));
        x.read(0, 0, false);
        edge.is("of those LET: greatest", 6, x.gas(0, 0, true));
        x.read(4, 0, false);
        edge.is("of those LET: least", 2, x.gas(0, 0, false));
    }

    private static void noneIsLet(Edge edge) {
        edge.sentence(19, "(0, 0 if none is)");
        SeamFire x = Edge.seam(2, 2, 1, 999);
        x.house(0, 9, 1);
        edge.is("no STATE: least", 0, x.gas(0, 0, false));
        edge.is("no STATE: greatest", 0, x.gas(0, 0, true));
        x.state(0, 0);
        edge.is("one is", 36, x.gas(0, 0, false));
        x.read(0, 0, false);
        edge.is("none is LET: least", 0, x.gas(0, 0, false));
        edge.is("none is LET: greatest", 0, x.gas(0, 0, true));
    }

    private static void asKnownAtTheClock(Edge edge) {
        edge.sentence(19, "LET as KNOWN at the clock");
        SeamFire x = Edge.seam(2, 2, 1, 999);
        x.house(0, 1, 1);
        x.state(0, 0);
        x.state(1, 0);
        Edge.until(x, 100);
        x.read(0, 0, false);
        edge.is("TOLD at 100: greatest of WEEK 0", 3, x.gas(0, 0, true));
        edge.is("of WEEK 99", 3, x.gas(0, 99, true));
    }

    private static void asksAlone(Edge edge) {
        edge.sentence(19, "Nothing beyond the answers and state changes described: it asks alone");
        edge.asksAlone("gas(1, 60, false)", o -> o.gas(1, 60, false));
        edge.asksAlone("gas(1, 60, true)", o -> o.gas(1, 60, true));
    }
}
