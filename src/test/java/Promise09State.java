/** Promise 9: state. */
final class Promise09State {
    private Promise09State() {
    }

    static void tests(Edge edge) {
        cells(edge);
        kinds(edge);
        weeks(edge);
        eight(edge);
        anyClock(edge);
        without(edge);
    }

    private static void cells(Edge edge) {
        edge.sentence(9, "A STATE: its number. NONE for others");
        SeamFire x = Edge.seam(4, 3, 1, 50);
        edge.is("state(0, 0)", 0, x.state(0, 0));
        edge.is("state(11, 0)", 1, x.state(11, 0));
        edge.is("state(12, 0)", -1, x.state(12, 0));
        edge.is("state(0, 0) once more, no number is left out", 2, x.state(0, 0));
        edge.is("the first BURNS by the first", 1, x.burns(0, 0, 0, 0));
        edge.is("the last BURNS by the second", 1, x.burns(1, 0, 11, 0));
        for (int c : new int[] {-1, 12, 64, Edge.MIN, Edge.MAX}) {
            edge.refusedAlways("state(" + c + ", 0)", -1, o -> o.state(c, 0));
        }
        edge.is("state(63, 0) of 8 by 8", 0, Edge.seam(8, 8, 1, 50).state(63, 0));
    }

    private static void kinds(Edge edge) {
        edge.sentence(9, "a CELL (COAL or PILLAR)");
        SeamFire x = Edge.drawn(50, ".c", "po");
        edge.is("ROCK", -1, x.state(0, 0));
        edge.is("COAL", 0, x.state(1, 0));
        edge.is("PILLAR", 1, x.state(2, 0));
        edge.is("ROOM", -1, x.state(3, 0));
        x.cell(3, 4, 0);
        edge.is("WATER", -1, x.state(3, 0));
        int[] others = {1, 2, 6, 8, 9, 11};
        for (int c : others) {
            edge.refused("state(" + c + ", 0)", -1, o -> o.state(c, 0), World.furnished());
        }
        for (int c = 0; c < 6; c++) {
            int rock = c;
            edge.refused("state(" + c + ", 0)", -1, o -> o.state(rock, 0), World.NEW);
        }
    }

    private static void weeks(Edge edge) {
        edge.sentence(9, "BURNS from the beginning of a WEEK on (0 .. 99)");
        SeamFire x = Edge.seam(2, 2, 1, 999);
        edge.is("state(0, 0)", 0, x.state(0, 0));
        edge.is("in 0", 1, x.burns(0, 0, 0, 0));
        edge.is("state(0, 1)", 1, x.state(0, 1));
        edge.is("in 0", 0, x.burns(1, 0, 0, 0));
        edge.is("in 1", 1, x.burns(1, 1, 0, 0));
        edge.is("state(0, 99)", 2, x.state(0, 99));
        edge.is("in 98", 0, x.burns(2, 98, 0, 0));
        edge.is("in 99", 1, x.burns(2, 99, 0, 0));
        for (int week : new int[] {-1, 100, Edge.MIN, Edge.MAX}) {
            edge.refusedAlways("state(0, " + week + ")", -1, o -> o.state(0, week));
            edge.refusedAlways("state(10, " + week + ")", -1, o -> o.state(10, week));
        }
    }

    private static void eight(Edge edge) {
        edge.sentence(9, "NONE if there are 8");
        SeamFire x = Edge.seam(4, 3, 1, 50);
        for (int i = 0; i < 8; i++) {
            edge.is("state", i, x.state(i, i));
        }
        edge.is("the ninth", -1, x.state(8, 8));
        edge.is("how many", 8, x.about(5));
        for (int i = 0; i < 8; i++) {
            edge.is("lost(" + i + ", " + i + ")", 1, x.lost(i, i));
        }
        edge.is("lost(8, 8)", -1, x.lost(8, 8));
        edge.refused("state(0, 0)", -1, o -> o.state(0, 0), World.FULL);
        edge.refused("state(10, 99)", -1, o -> o.state(10, 99), World.FULL);
    }

    private static void anyClock(Edge edge) {
        edge.sentence(9, "A STATE: at any clock, 100 too");
        SeamFire x = Edge.seam(2, 2, 1, 999);
        Edge.until(x, 50);
        edge.is("of a WEEK that went by", 0, x.state(0, 3));
        edge.is("BURNS in it", 1, x.burns(0, 3, 0, 0));
        Edge.until(x, 100);
        edge.is("at 100", 1, x.state(3, 99));
        edge.is("BURNS in 99", 1, x.burns(1, 99, 3, 0));
    }

    private static void without(Edge edge) {
        edge.sentence(9, "if it has tons and wasn't CUT");
        SeamFire x = Edge.seam(2, 2, 1, 999);
        x.trench(0, 0, 2, 1);
        edge.is("of a CELL that is CUT", 0, x.state(0, 5));
        edge.is("it doesn't BURN", 0, x.lost(0, 5));
        edge.is("CUT in the WEEK itself", 1, x.state(1, 1));
        edge.is("it doesn't BURN", 0, x.burns(1, 1, 1, 0));
        edge.is("CUT a WEEK later", 2, x.state(1, 0));
        edge.is("it BURNS", 1, x.burns(2, 0, 1, 0));
        edge.is("until then", 0, x.burns(2, 1, 1, 0));
        edge.is("told as WATER since", 3, x.state(3, 0));
        x.cell(3, 4, 0);
        edge.is("it doesn't BURN", 0, x.lost(3, 0));
    }
}
