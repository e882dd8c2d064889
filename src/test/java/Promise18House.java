/** Promise 18: house. */
final class Promise18House {
    private Promise18House() {
    }

    static void tests(Edge edge) {
        cells(edge);
        cracks(edge);
        sizes(edge);
        twenty(edge);
        anyClock(edge);
    }

    private static void cells(Edge edge) {
        edge.sentence(18, "A HOUSE: its number. NONE for others");
        SeamFire x = Edge.seam(4, 3, 1, 999);
        x.state(11, 0);
        edge.is("house(0, 1, 1)", 0, x.house(0, 1, 1));
        edge.is("house(11, 1, 1)", 1, x.house(11, 1, 1));
        edge.is("house(12, 1, 1)", -1, x.house(12, 1, 1));
        edge.is("house(11, 1, 1) once more, no number is left out", 2, x.house(11, 1, 1));
        edge.is("GAS of the first", 0, x.gas(0, 0, true));
        edge.is("GAS of the last", 4, x.gas(2, 0, true));
        for (int c : new int[] {-1, 12, 64, Edge.MIN, Edge.MAX}) {
            edge.refusedAlways("house(" + c + ", 1, 1)", -1, o -> o.house(c, 1, 1));
        }
        edge.is("house(63, 1, 1) of 8 by 8", 0, new SeamFire(8, 8).house(63, 1, 1));
    }

    private static void cracks(Edge edge) {
        edge.sentence(18, "CRACKS (0 .. 9)");
        SeamFire x = Edge.seam(2, 2, 1, 999);
        x.state(0, 0);
        for (int cracks = 0; cracks <= 9; cracks++) {
            edge.is("house(0, " + cracks + ", 1)", cracks, x.house(0, cracks, 1));
            edge.is("its GAS", 4 * cracks, x.gas(cracks, 0, true));
        }
        for (int cracks : new int[] {-1, 10, Edge.MIN, Edge.MAX}) {
            edge.refusedAlways("house(0, " + cracks + ", 1)", -1, o -> o.house(0, cracks, 1));
        }
    }

    private static void sizes(Edge edge) {
        edge.sentence(18, "SIZE (1 .. 9)");
        SeamFire x = new SeamFire(2, 2);
        for (int size = 1; size <= 9; size++) {
            edge.is("house(0, 0, " + size + ")", size - 1, x.house(0, 0, size));
            edge.is("its WORTH", 100 * size, x.by(size - 1, 0, 1));
        }
        for (int size : new int[] {0, -1, 10, Edge.MIN, Edge.MAX}) {
            edge.refusedAlways("house(0, 0, " + size + ")", -1, o -> o.house(0, 0, size));
        }
    }

    private static void twenty(Edge edge) {
        edge.sentence(18, "NONE if there are 20");
        SeamFire x = new SeamFire(4, 3);
        for (int i = 0; i < 20; i++) {
            edge.is("house", i, x.house(i % 12, 1, 1 + i % 9));
        }
        edge.is("the 21st", -1, x.house(0, 1, 9));
        edge.is("about(7)", 20, x.about(7));
        edge.is("WORTH of the last", 200, x.by(19, 0, 1));
        edge.is("WORTH of the 21st", -1, x.by(20, 0, 1));
        edge.refused("house(0, 1, 1)", -1, o -> o.house(0, 1, 1), World.FULL);
        edge.refused("house(11, 9, 9)", -1, o -> o.house(11, 9, 9), World.FULL);
    }

    private static void anyClock(Edge edge) {
        edge.sentence(18, "A HOUSE: at any clock, 100 too");
        SeamFire x = new SeamFire(2, 2);
        x.weeks(20);
        edge.is("at 20", 0, x.house(0, 1, 1));
        Edge.until(x, 100);
        edge.is("at 100", 1, x.house(0, 1, 1));
    }
}
