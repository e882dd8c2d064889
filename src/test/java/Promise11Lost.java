/** Promise 11: lost. */
final class Promise11Lost {
    private Promise11Lost() {
    }

    static void tests(Edge edge) {
        numbers(edge);
        noneAndAll(edge);
        burntOnesToo(edge);
        cut(edge);
        asksAlone(edge);
    }

    private static void numbers(Edge edge) {
        edge.sentence(11, "LOST. NONE for others");
        SeamFire x = Edge.seam(2, 2, 1, 999);
        edge.is("lost(0, 0) of no STATE", -1, x.lost(0, 0));
        x.state(0, 0);
        edge.is("lost(0, 0)", 1, x.lost(0, 0));
        edge.is("lost(0, 99)", 1, x.lost(0, 99));
        edge.is("lost(1, 0) of one STATE", -1, x.lost(1, 0));
        for (int v : new int[] {-1, Edge.MIN, Edge.MAX}) {
            edge.refusedAlways("lost(" + v + ", 0)", -1, o -> o.lost(v, 0));
            edge.refusedAlways("lost(0, " + v + ")", -1, o -> o.lost(0, v));
        }
        edge.refusedAlways("lost(0, 100)", -1, o -> o.lost(0, 100));
        edge.refusedAlways("lost(8, 0)", -1, o -> o.lost(8, 0));
        edge.refused("lost(3, 0)", -1, o -> o.lost(3, 0), World.BEGUN, World.READ);
        edge.refused("lost(4, 0)", -1, o -> o.lost(4, 0), World.LATER, World.ENDED);
    }

    private static void noneAndAll(Edge edge) {
        edge.sentence(11, "how many CELLS BURN or are BURNT: none at the least, all at the most");
        SeamFire x = Edge.seam(5, 4, 1, 30);
        x.rules(1, 10, 0);
        x.state(0, 3);
        for (int c = 0; c < 20; c++) {
            x.hole(c);
        }
        edge.is("ahead of its WEEK", 0, x.lost(0, 2));
        edge.is("in its WEEK", 1, x.lost(0, 3));
        edge.is("a WEEK later", 3, x.lost(0, 4));
        edge.is("all but the farthest", 19, x.lost(0, 9));
        edge.is("all", 20, x.lost(0, 10));
        edge.is("all in 99", 20, x.lost(0, 99));
        SeamFire y = allOf64();
        edge.is("of 64", 1, y.lost(0, 0));
        edge.is("all 64", 64, y.lost(0, 99));
    }

    /**
     * Row 0 and column 0 have holes; column 0 burns for long and the others for three weeks, so that
     * each cell has a burnt one above it, which brings air, while the one to its left burns.
     */
    static SeamFire allOf64() {
        SeamFire x = Edge.seam(8, 8, 1, 30);
        x.rules(1, 10, 30);
        for (int y = 0; y < 8; y++) {
            x.cell(8 * y, 1, y == 0 ? 30 : 999);
            x.hole(8 * y);
        }
        for (int c = 1; c < 8; c++) {
            x.hole(c);
        }
        x.state(0, 0);
        return x;
    }

    private static void burntOnesToo(Edge edge) {
        edge.sentence(11, "BURN or are BURNT");
        SeamFire x = Edge.drawn(10, "cc", "..");
        x.rules(1, 10, 0);
        x.state(0, 0);
        x.hole(0);
        x.hole(1);
        edge.is("one BURNS", 1, x.lost(0, 0));
        edge.is("one is BURNT, one BURNS", 2, x.lost(0, 1));
        edge.is("both are BURNT", 2, x.lost(0, 2));
        edge.is("HEAT alone doesn't count", 1, catching().lost(0, 5));
    }

    private static SeamFire catching() {
        SeamFire x = Edge.drawn(900, "cc", "..");
        x.rules(20, 10, 0);
        x.state(0, 0);
        x.hole(1);
        return x;
    }

    private static void cut(Edge edge) {
        edge.sentence(11, "CELLS that are CUT aren't LOST");
        SeamFire x = Edge.drawn(10, "cc", "..");
        x.rules(1, 10, 0);
        x.state(0, 0);
        x.hole(0);
        x.hole(1);
        x.weeks(1);
        x.trench(0, 0, 2, 1);
        edge.is("in 0", 1, x.lost(0, 0));
        edge.is("one is CUT in 1, the other BURNS", 1, x.lost(0, 1));
        edge.is("both are CUT in 2", 0, x.lost(0, 2));
        edge.is("in 99", 0, x.lost(0, 99));
    }

    private static void asksAlone(Edge edge) {
        edge.sentence(11, "Nothing beyond the answers and state changes described: it asks alone");
        edge.asksAlone("lost(1, 40)", o -> o.lost(1, 40));
    }
}
