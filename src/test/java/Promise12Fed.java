/** Promise 12: fed. */
final class Promise12Fed {
    private Promise12Fed() {
    }

    static void tests(Edge edge) {
        numbers(edge);
        moreAndLess(edge);
        otherHoles(edge);
        plugged(edge);
        changesNothing(edge);
    }

    private static SeamFire twoCells() {
        SeamFire x = Edge.drawn(900, "cc", "..");
        x.rules(1, 10, 0);
        x.state(0, 0);
        return x;
    }

    private static void numbers(Edge edge) {
        edge.sentence(12, "FED. -1000 for others");
        SeamFire x = twoCells();
        edge.is("fed(0, 0, 0) of no HOLE", -1000, x.fed(0, 0, 0));
        x.hole(1);
        edge.is("fed(0, 0, 0)", 0, x.fed(0, 0, 0));
        edge.is("fed(0, 99, 0)", 1, x.fed(0, 99, 0));
        edge.is("fed(0, 0, 1) of one HOLE", -1000, x.fed(0, 0, 1));
        edge.is("fed(1, 0, 0) of one STATE", -1000, x.fed(1, 0, 0));
        SeamFire y = new SeamFire(2, 2);
        y.hole(0);
        edge.is("fed(0, 0, 0) of no STATE", -1000, y.fed(0, 0, 0));
        for (int v : new int[] {-1, Edge.MIN, Edge.MAX}) {
            edge.refusedAlways("fed(" + v + ", 0, 0)", -1000, o -> o.fed(v, 0, 0));
            edge.refusedAlways("fed(0, " + v + ", 0)", -1000, o -> o.fed(0, v, 0));
            edge.refusedAlways("fed(0, 0, " + v + ")", -1000, o -> o.fed(0, 0, v));
        }
        edge.refusedAlways("fed(0, 100, 0)", -1000, o -> o.fed(0, 100, 0));
        edge.refusedAlways("fed(8, 0, 0)", -1000, o -> o.fed(8, 0, 0));
        edge.refusedAlways("fed(0, 0, 20)", -1000, o -> o.fed(0, 0, 20));
        edge.refused("fed(3, 9, 0)", -1000, o -> o.fed(3, 9, 0), World.BEGUN, World.READ);
        edge.refused("fed(0, 9, 3)", -1000, o -> o.fed(0, 9, 3), World.BEGUN, World.READ);
        edge.refused("fed(0, 9, 4)", -1000, o -> o.fed(0, 9, 4), World.LATER, World.ENDED);
    }

    private static void moreAndLess(Edge edge) {
        edge.sentence(12, "LOST less what it would be without that HOLE: above 0, 0, below 0");
        SeamFire x = twoCells();
        x.hole(1);
        x.hole(2);
        edge.is("at the beginning", 0, x.fed(0, 0, 0));
        edge.is("a WEEK later", 1, x.fed(0, 1, 0));
        edge.is("a HOLE far away", 0, x.fed(0, 50, 1));
        SeamFire y = Edge.drawn(10, "cc", "..");
        y.rules(2, 10, 0);
        y.state(0, 0);
        y.hole(1);
        y.hole(0);
        edge.is("without it the first BURNS longer and the other catches", -1, y.fed(0, 9, 1));
        edge.is("at week 1 neither counts", 0, y.fed(0, 1, 1));
    }

    private static void otherHoles(Edge edge) {
        edge.sentence(12, "without that HOLE: others stay");
        SeamFire x = twoCells();
        x.hole(1);
        x.hole(1);
        edge.is("another is in the same CELL", 0, x.fed(0, 9, 0));
        edge.is("and the other way round", 0, x.fed(0, 9, 1));
        x.plug(1);
        edge.is("that is PLUGGED now", 1, x.fed(0, 9, 0));
        SeamFire late = twoCells();
        late.hole(1);
        late.weeks(5);
        late.hole(1);
        edge.is("another is bored in 5: in 5", 1, late.fed(0, 5, 0));
        edge.is("another is bored in 5: in 6", 0, late.fed(0, 6, 0));
        late.weeks(5);
        edge.is("and later", 1, late.fed(0, 5, 0));
        SeamFire early = twoCells();
        early.rules(5, 10, 0);
        early.hole(1);
        early.hole(1);
        early.weeks(3);
        early.plug(1);
        edge.is("another is PLUGGED in 3", 1, early.fed(0, 5, 0));
        SeamFire y = Edge.seam(5, 4, 1, 900);
        y.rules(1, 10, 0);
        y.state(0, 0);
        for (int c = 0; c < 20; c++) {
            y.hole(19 - c);
        }
        edge.is("the last of 20", 0, y.fed(0, 9, 19));
        edge.is("the first of 20", 1, y.fed(0, 9, 0));
        edge.is("of a corner's NEIGHBOUR", 1, y.fed(0, 1, 18));
    }

    private static void plugged(Edge edge) {
        edge.sentence(12, "FED by a HOLE: one that is never open feeds nothing");
        SeamFire x = twoCells();
        x.hole(1);
        x.plug(0);
        edge.is("PLUGGED in its own WEEK", 0, x.fed(0, 99, 0));
        SeamFire y = twoCells();
        y.weeks(5);
        y.hole(1);
        edge.is("ahead of its WEEK", 0, y.fed(0, 5, 0));
        edge.is("behind it", 1, y.fed(0, 6, 0));
    }

    private static void changesNothing(Edge edge) {
        edge.sentence(12, "what it would be: nothing is changed");
        edge.asksAlone("fed(0, 9, 0)", o -> o.fed(0, 9, 0));
        edge.asksAlone("fed(2, 99, 2)", o -> o.fed(2, 99, 2));
    }
}
