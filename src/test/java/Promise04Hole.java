/** Promise 4: hole. */
final class Promise04Hole {
    private Promise04Hole() {
    }

    static void tests(Edge edge) {
        cells(edge);
        anyKind(edge);
        atTheEnd(edge);
        twenty(edge);
        openFrom(edge);
    }

    private static void cells(Edge edge) {
        edge.sentence(4, "A HOLE: its number. NONE for others");
        SeamFire x = new SeamFire(4, 3);
        edge.is("hole(0)", 0, x.hole(0));
        edge.is("hole(11)", 1, x.hole(11));
        edge.is("hole(11) once more", 2, x.hole(11));
        edge.is("hole(12)", -1, x.hole(12));
        edge.is("hole(0), no number is left out", 3, x.hole(0));
        for (int c : new int[] {-1, 12, 63, 64, Edge.MIN, Edge.MAX}) {
            edge.refusedAlways("hole(" + c + ")", -1, o -> o.hole(c));
        }
        edge.refused("hole(6) of 3 by 2", -1, o -> o.hole(6), World.NEW);
        SeamFire large = new SeamFire(8, 8);
        edge.is("hole(63) of 8 by 8", 0, large.hole(63));
        edge.is("hole(64) of 8 by 8", -1, large.hole(64));
    }

    private static void anyKind(Edge edge) {
        edge.sentence(4, "HOLES 0 .. 19: in a CELL");
        SeamFire x = Edge.drawn(50, ".cp", "owc");
        x.state(5, 0);
        for (int c = 0; c < 5; c++) {
            edge.is("no AIR in " + c, 0, x.burns(0, 0, c, 3));
        }
        for (int c = 0; c < 5; c++) {
            edge.is("hole(" + c + ")", c, x.hole(c));
            edge.is("AIR in " + c, 1, x.burns(0, 0, c, 3));
        }
    }

    private static void atTheEnd(Edge edge) {
        edge.sentence(4, "NONE at 100");
        SeamFire x = Edge.seam(2, 2, 1, 999);
        x.state(0, 0);
        Edge.until(x, 99);
        edge.is("at 99", 0, x.hole(0));
        edge.is("AIR in 98", 0, x.burns(0, 98, 0, 3));
        edge.is("AIR in 99", 1, x.burns(0, 99, 0, 3));
        x.weeks(1);
        edge.is("at 100", -1, x.hole(0));
        edge.refused("hole(0)", -1, o -> o.hole(0), World.ENDED);
        edge.refused("hole(11)", -1, o -> o.hole(11), World.ENDED);
    }

    private static void twenty(Edge edge) {
        edge.sentence(4, "NONE if there are 20");
        SeamFire x = new SeamFire(2, 2);
        for (int i = 0; i < 20; i++) {
            edge.is("hole", i, x.hole(i % 4));
        }
        edge.is("the 21st", -1, x.hole(0));
        edge.is("how many", 20, x.about(3));
        x.plug(19);
        edge.is("PLUGGED ones count", -1, x.hole(0));
        x.back();
        edge.is("in the image there are none", 0, x.hole(0));
        edge.refused("hole(0)", -1, o -> o.hole(0), World.FULL);
        edge.refused("hole(11)", -1, o -> o.hole(11), World.FULL);
    }

    private static void openFrom(Edge edge) {
        edge.sentence(4, "open from the WEEK on in which it was bored (the clock's)");
        for (int clock : new int[] {0, 1, 50, 98}) {
            SeamFire x = Edge.seam(2, 2, 1, 999);
            x.state(0, 0);
            Edge.until(x, clock);
            edge.is("AIR in " + clock + " ahead of the boring", 0, x.burns(0, clock, 3, 3));
            x.hole(3);
            edge.is("AIR ahead of " + clock, clock == 0 ? -1 : 0, x.burns(0, clock - 1, 3, 3));
            edge.is("AIR in " + clock, 1, x.burns(0, clock, 3, 3));
            edge.is("AIR behind " + clock, 1, x.burns(0, clock + 1, 3, 3));
            edge.is("AIR in 99", 1, x.burns(0, 99, 3, 3));
        }
        SeamFire y = Edge.seam(2, 2, 1, 999);
        y.state(0, 0);
        y.weeks(3);
        edge.is("tons in 4, asked ahead of it", 979, y.burns(0, 4, 0, 1));
        y.hole(0);
        edge.is("tons in 4", 974, y.burns(0, 4, 0, 1));
        edge.is("tons in 5", 964, y.burns(0, 5, 0, 1));
        edge.is("tons in 3", 984, y.burns(0, 3, 0, 1));
    }
}
