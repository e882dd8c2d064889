/** Promise 13: inTime. */
final class Promise13InTime {
    private Promise13InTime() {
    }

    static void tests(Edge edge) {
        numbers(edge);
        byOne(edge);
        beginningOfTheWeek(edge);
        lightsInItsWeek(edge);
        neverCut(edge);
        byMany(edge);
        noneIsLet(edge);
        asksAlone(edge);
    }

    private static void numbers(Edge edge) {
        edge.sentence(13, "IN TIME by a STATE (1, 0). NONE for others");
        SeamFire x = Edge.seam(2, 2, 1, 900);
        x.state(0, 0);
        edge.is("inTime(0, 0) of no TRENCH", -1, x.inTime(0, 0));
        edge.is("inTime(0, -1) of no TRENCH", -1, x.inTime(0, -1));
        x.trench(1, 2, 2, 1);
        edge.is("inTime(0, 0)", 1, x.inTime(0, 0));
        edge.is("inTime(1, 0) of one TRENCH", -1, x.inTime(1, 0));
        edge.is("inTime(0, 1) of one STATE", -1, x.inTime(0, 1));
        edge.is("inTime(0, -2)", -1, x.inTime(0, -2));
        for (int v : new int[] {-1, 10, Edge.MIN, Edge.MAX}) {
            edge.refusedAlways("inTime(" + v + ", 0)", -1, o -> o.inTime(v, 0));
            edge.refusedAlways("inTime(" + v + ", -1)", -1, o -> o.inTime(v, -1));
        }
        for (int v : new int[] {-2, 8, Edge.MIN, Edge.MAX}) {
            edge.refusedAlways("inTime(0, " + v + ")", -1, o -> o.inTime(0, v));
        }
        edge.refused("inTime(1, 0)", -1, o -> o.inTime(1, 0), World.BEGUN, World.READ, World.ENDED);
        edge.refused("inTime(0, 3)", -1, o -> o.inTime(0, 3), World.BEGUN, World.READ);
        edge.refused("inTime(2, -1)", -1, o -> o.inTime(2, -1), World.LATER);
        edge.refused("inTime(1, 4)", -1, o -> o.inTime(1, 4), World.LATER);
    }

    private static void byOne(Edge edge) {
        edge.sentence(13, "if none of its CELLS BURNS or is BURNT");
        SeamFire x = Edge.drawn(10, "cccccccc", "........");
        x.rules(9, 10, 0);
        x.hole(7);
        x.state(0, 0);
        x.state(7, 0);
        x.state(4, 0);
        x.weeks(1);
        x.trench(0, 0, 8, 8);
        edge.is("the first BURNS", 0, x.inTime(0, 0));
        edge.is("the last is BURNT", 0, x.inTime(0, 1));
        edge.is("one in between BURNS", 0, x.inTime(0, 2));
        x.trench(1, 0, 3, 1);
        for (int s = 0; s < 3; s++) {
            edge.is("none of 1 to 3", 1, x.inTime(1, s));
        }
    }

    /** The second cell catches for the beginning of week 1, the third for that of week 2, and so on. */
    private static void beginningOfTheWeek(Edge edge) {
        edge.sentence(13, "at the beginning of the WEEK in which it is CUT (ahead of its being CUT)");
        for (int clock = 0; clock <= 4; clock++) {
            for (int c = 1; c <= 3; c++) {
                SeamFire x = Edge.drawn(900, "cccc", "....");
                x.rules(1, 10, 0);
                x.hole(1);
                x.hole(2);
                x.hole(3);
                x.state(0, 0);
                if (clock > 0) {
                    x.weeks(clock);
                }
                x.trench(c, 0, 1, 1);
                edge.is("cell " + c + " CUT in " + clock, clock < c ? 1 : 0, x.inTime(0, 0));
                edge.is("then it doesn't BURN", 0, x.burns(0, clock, c, 0));
            }
        }
        SeamFire y = Edge.drawn(900, "cccc", "....");
        y.rules(1, 10, 0);
        y.hole(1);
        y.state(0, 0);
        y.weeks(1);
        y.trench(2, 1, 2, 1);
        edge.is("CELL 1 BURNS from 1 on, and is CUT in 2", 0, y.inTime(0, 0));
        y.trench(3, 1, 2, 2);
        edge.is("CELLS 3 and 2 never", 1, y.inTime(1, 0));
        y.trench(1, 1, 1, 1);
        edge.is("CUT in 1 it comes too late as well", 0, y.inTime(2, 0));
        y.weeks(3);
        y.trench(1, 1, 1, 1);
        edge.is("CUT once more in 4: it doesn't BURN then", 1, y.inTime(3, 0));
    }

    private static void lightsInItsWeek(Edge edge) {
        edge.sentence(13, "ahead of its being CUT: a CELL that lights in that very WEEK BURNS");
        SeamFire x = Edge.drawn(900, "cc", "..");
        x.state(0, 2);
        x.state(0, 3);
        x.state(0, 4);
        x.weeks(3);
        x.trench(0, 0, 1, 1);
        edge.is("lit a WEEK ahead", 0, x.inTime(0, 0));
        edge.is("lit in that WEEK", 0, x.inTime(0, 1));
        edge.is("would be lit a WEEK later", 1, x.inTime(0, 2));
        edge.is("by some", 1, x.inTime(0, -1));
    }

    private static void neverCut(Edge edge) {
        edge.sentence(13, "the WEEK in which it is CUT: one that never is doesn't count");
        SeamFire x = Edge.drawn(900, "cccc", "....");
        x.rules(20, 1, 0);
        x.state(1, 0);
        x.state(0, 99);
        x.state(0, 98);
        Edge.until(x, 99);
        x.trench(0, 0, 2, 1);
        edge.is("CELL 1 BURNS, and would be CUT in 100", 1, x.inTime(0, 0));
        edge.is("CELL 0 lights in 99 and is CUT in it", 0, x.inTime(0, 1));
        edge.is("CELL 0 BURNS since 98", 0, x.inTime(0, 2));
        x.trench(0, 0, 2, 2);
        edge.is("both are CUT in 99", 0, x.inTime(1, 0));
        x.weeks(1);
        edge.is("as well at 100", 1, x.inTime(0, 0));
        edge.is("by some", 1, x.inTime(0, -1));
    }

    private static void byMany(Edge edge) {
        edge.sentence(13, "by STATES that are LET as KNOWN now (state NONE): 2 by all, 1 by some, 0 by none");
        SeamFire x = Edge.seam(4, 2, 1, 900);
        x.trench(1, 2, 2, 2);
        x.state(0, 0);
        edge.is("one of one", 2, x.inTime(0, -1));
        x.state(1, 0);
        edge.is("one of two", 1, x.inTime(0, -1));
        for (int i = 2; i < 8; i++) {
            x.state(5, 0);
        }
        edge.is("one of eight", 1, x.inTime(0, -1));
        x.read(0, 0, false);
        edge.is("none of seven", 0, x.inTime(0, -1));
        SeamFire y = Edge.seam(4, 2, 1, 900);
        y.trench(1, 2, 2, 2);
        y.state(1, 0);
        for (int i = 1; i < 8; i++) {
            y.state(0, 0);
        }
        edge.is("seven of eight", 1, y.inTime(0, -1));
        y.read(0, 0, true);
        edge.is("seven of seven", 2, y.inTime(0, -1));
    }

    private static void noneIsLet(Edge edge) {
        edge.sentence(13, "NONE if none is LET");
        SeamFire x = Edge.seam(4, 2, 1, 900);
        x.trench(1, 2, 2, 2);
        edge.is("there is no STATE", -1, x.inTime(0, -1));
        x.state(0, 0);
        x.read(0, 0, false);
        edge.is("none is LET", -1, x.inTime(0, -1));
        edge.is("by the STATE itself", 1, x.inTime(0, 0));
        edge.refusedAfter(4, 3, o -> {
            World.BEGUN.make(o);
            o.read(11, 0, true);
        }, "inTime(0, -1)", -1, o -> o.inTime(0, -1));
    }

    private static void asksAlone(Edge edge) {
        edge.sentence(13, "Nothing beyond the answers and state changes described: it asks alone");
        edge.asksAlone("inTime(0, 0)", o -> o.inTime(0, 0));
        edge.asksAlone("inTime(0, -1)", o -> o.inTime(0, -1));
    }
}
