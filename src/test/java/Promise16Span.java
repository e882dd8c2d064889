/** Promise 16: span. */
final class Promise16Span {
    private Promise16Span() {
    }

    static void tests(Edge edge) {
        numbers(edge);
        allSomeNone(edge);
        asKnown(edge);
        noneIsLet(edge);
        asksAlone(edge);
    }

    private static void numbers(Edge edge) {
        edge.sentence(16, "SPAN of a CELL as KNOWN. NONE for others");
        SeamFire x = Edge.seam(4, 3, 1, 999);
        x.state(11, 0);
        edge.is("span(0, 0, 0)", 0, x.span(0, 0, 0));
        edge.is("span(11, 99, 100)", 2, x.span(11, 99, 100));
        edge.is("span(12, 0, 0)", -1, x.span(12, 0, 0));
        for (int v : new int[] {-1, Edge.MIN, Edge.MAX}) {
            edge.refusedAlways("span(" + v + ", 0, 0)", -1, o -> o.span(v, 0, 0));
            edge.refusedAlways("span(0, " + v + ", 0)", -1, o -> o.span(0, v, 0));
            edge.refusedAlways("span(0, 0, " + v + ")", -1, o -> o.span(0, 0, v));
        }
        edge.refusedAlways("span(12, 0, 0)", -1, o -> o.span(12, 0, 0));
        edge.refusedAlways("span(0, 100, 0)", -1, o -> o.span(0, 100, 0));
        edge.refusedAlways("span(0, 0, 101)", -1, o -> o.span(0, 0, 101));
    }

    private static void allSomeNone(Edge edge) {
        edge.sentence(16, "SURE (2): it BURNS by all STATES that are LET; MAY BE (1): by some; NOT (0)");
        SeamFire x = Edge.seam(4, 2, 1, 999);
        for (int s = 0; s < 8; s++) {
            x.state(0, s);
        }
        edge.is("by none ahead of it", 0, x.span(1, 0, 0));
        edge.is("by one of eight", 1, x.span(0, 0, 0));
        edge.is("by seven of eight", 1, x.span(0, 6, 0));
        edge.is("by all", 2, x.span(0, 7, 0));
        SeamFire y = Edge.drawn(10, "c.", "..");
        y.rules(9, 10, 0);
        y.hole(0);
        y.state(0, 0);
        edge.is("by one of one", 2, y.span(0, 0, 0));
        edge.is("BURNT doesn't BURN", 0, y.span(0, 1, 0));
        edge.is("a CELL that has no tons", 0, y.span(3, 0, 0));
    }

    private static void asKnown(Edge edge) {
        edge.sentence(16, "STATES that are LET as KNOWN in k");
        SeamFire x = Edge.seam(4, 2, 1, 999);
        x.state(0, 0);
        x.state(1, 0);
        x.weeks(4);
        x.read(1, 0, false);
        edge.is("as KNOWN in 3", 1, x.span(0, 0, 3));
        edge.is("as KNOWN in 4", 2, x.span(0, 0, 4));
        edge.is("as KNOWN in 100", 2, x.span(0, 0, 100));
        edge.is("the other as KNOWN in 3", 1, x.span(1, 0, 3));
        edge.is("the other as KNOWN in 4", 0, x.span(1, 0, 4));
    }

    private static void noneIsLet(Edge edge) {
        edge.sentence(16, "NONE if none is LET");
        SeamFire x = Edge.seam(4, 2, 1, 999);
        edge.is("no STATE", -1, x.span(0, 0, 0));
        x.state(0, 0);
        x.weeks(2);
        x.read(0, 0, false);
        edge.is("as KNOWN in 2", -1, x.span(0, 0, 2));
        edge.is("as KNOWN in 1", 2, x.span(0, 0, 1));
        edge.refused("span(0, 0, 100)", -1, o -> o.span(0, 0, 100), World.NEW);
        edge.refusedAfter(4, 3, o -> {
            World.BEGUN.make(o);
            o.read(11, 0, true);
        }, "span(0, 0, 0)", -1, o -> o.span(0, 0, 0));
    }

    private static void asksAlone(Edge edge) {
        edge.sentence(16, "Nothing beyond the answers and state changes described: it asks alone");
        edge.asksAlone("span(0, 60, 100)", o -> o.span(0, 60, 100));
    }
}
