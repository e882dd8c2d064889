/** Promise 34: place. */
final class Promise34Place {
    private Promise34Place() {
    }

    static void tests(Edge edge) {
        cells(edge);
        noRoom(edge);
        costs(edge);
        six(edge);
        anyClock(edge);
    }

    private static void cells(Edge edge) {
        edge.sentence(34, "A PLACE: its number. NONE for others");
        SeamFire x = Edge.seam(4, 3, 3, 0);
        edge.is("place(0, 1)", 0, x.place(0, 1));
        edge.is("place(11, 1)", 1, x.place(11, 1));
        edge.is("place(12, 1)", -1, x.place(12, 1));
        edge.is("place(0, 1) once more, no number is left out", 2, x.place(0, 1));
        for (int c : new int[] {-1, 12, 64, Edge.MIN, Edge.MAX}) {
            edge.refusedAlways("place(" + c + ", 1)", -1, o -> o.place(c, 1));
        }
        edge.is("place(63, 1) of 8 by 8", 0, Edge.seam(8, 8, 3, 0).place(63, 1));
    }

    private static void noRoom(Edge edge) {
        edge.sentence(34, "NONE for no ROOM");
        SeamFire x = Edge.drawn(50, ".c", "po");
        edge.is("ROCK", -1, x.place(0, 1));
        edge.is("COAL", -1, x.place(1, 1));
        edge.is("PILLAR", -1, x.place(2, 1));
        edge.is("ROOM", 0, x.place(3, 1));
        x.cell(3, 4, 0);
        edge.is("WATER", -1, x.place(3, 1));
        for (int c : new int[] {0, 3, 8, 11}) {
            edge.refused("place(" + c + ", 1)", -1, o -> o.place(c, 1), World.furnished());
        }
        edge.refused("place(0, 1)", -1, o -> o.place(0, 1), World.NEW);
        SeamFire y = Edge.drawn(50, "oc", "..");
        y.pour(0, 20);
        edge.is("a full ROOM is one", 0, y.place(0, 1));
    }

    private static void costs(Edge edge) {
        edge.sentence(34, "a COST (0 .. 9999)");
        for (int cost : new int[] {0, 1, 9998, 9999}) {
            SeamFire x = Edge.drawn(900, "cco", "...");
            x.rules(1, 1, 9);
            x.state(0, 0);
            x.hole(2);
            edge.is("place(2, " + cost + ")", 0, x.place(2, cost));
            edge.is("what it costs", cost, x.best(cost, 5, 1));
            edge.is("what is LOST then", 1, x.best(cost, 5, 2));
            edge.is("for less it can't be had", cost == 0 ? -1 : 2, x.best(cost - 1, 5, 2));
        }
        for (int cost : new int[] {-1, 10000, Edge.MIN, Edge.MAX}) {
            edge.refusedAlways("place(9, " + cost + ")", -1, o -> o.place(9, cost));
        }
    }

    private static void six(Edge edge) {
        edge.sentence(34, "NONE if there are 6");
        SeamFire x = Edge.seam(2, 2, 3, 0);
        for (int i = 0; i < 6; i++) {
            edge.is("place", i, x.place(i % 4, i));
        }
        edge.is("the 7th", -1, x.place(0, 0));
        edge.is("about(12)", 6, x.about(12));
        x.back();
        edge.is("about(12) of the image", 0, x.about(12));
        edge.refused("place(9, 0)", -1, o -> o.place(9, 0), World.FULL);
        edge.refused("place(1, 9999)", -1, o -> o.place(1, 9999), World.FULL);
    }

    private static void anyClock(Edge edge) {
        edge.sentence(34, "A PLACE: at any clock, 100 too");
        SeamFire x = Edge.seam(2, 2, 3, 0);
        x.weeks(20);
        edge.is("at 20", 0, x.place(0, 1));
        Edge.until(x, 100);
        edge.is("at 100", 1, x.place(0, 1));
    }
}
