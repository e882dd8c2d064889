/** Promise 2: cell. */
final class Promise02Cell {
    private static final int[] WITHOUT_TONS = {0, 3, 4};
    private static final int[] WITH_TONS = {1, 2};

    private Promise02Cell() {
    }

    static void tests(Edge edge) {
        cells(edge);
        kinds(edge);
        tonsOfCoal(edge);
        tonsOfOthers(edge);
        clock(edge);
        toldAgain(edge);
    }

    private static long cell(SeamFire x, int cell, int kind, int tons) {
        return x.cell(cell, kind, tons) ? 1 : 0;
    }

    private static void cells(Edge edge) {
        edge.sentence(2, "A CELL: true. False for others");
        SeamFire x = new SeamFire(4, 3);
        edge.yes("cell(0, 1, 5)", x.cell(0, 1, 5));
        edge.yes("cell(11, 1, 7)", x.cell(11, 1, 7));
        edge.is("the first is COAL", 0, x.state(0, 0));
        edge.is("the last is COAL", 1, x.state(11, 0));
        edge.is("tons of the first", 5, x.burns(0, 0, 0, 1));
        edge.is("tons of the last", 7, x.burns(0, 0, 11, 1));
        for (int c : new int[] {-1, 12, 64, Edge.MIN, Edge.MAX}) {
            edge.refusedAlways("cell(" + c + ", 1, 5)", 0, o -> cell(o, c, 1, 5));
            edge.refusedAlways("cell(" + c + ", 3, 0)", 0, o -> cell(o, c, 3, 0));
        }
        edge.refused("cell(6, 3, 0) of 3 by 2", 0, o -> cell(o, 6, 3, 0), World.NEW);
    }

    private static void kinds(Edge edge) {
        edge.sentence(2, "A CELL is 0 ROCK (at first), 1 COAL, 2 PILLAR, 3 ROOM, 4 WATER");
        for (int kind = 0; kind <= 4; kind++) {
            SeamFire x = new SeamFire(4, 3);
            boolean burns = kind == 1 || kind == 2;
            edge.yes("cell(5, " + kind + ", ..)", x.cell(5, kind, burns ? 9 : 0));
            edge.is("state of kind " + kind, burns ? 0 : -1, x.state(5, 0));
            edge.is("pour into kind " + kind, kind == 3 ? 0 : -1, x.pour(5, 1));
            edge.is("place in kind " + kind, kind == 3 ? 0 : -1, x.place(5, 1));
        }
        for (int kind : new int[] {-1, 5, Edge.MIN, Edge.MAX}) {
            edge.refusedAlways("cell(4, " + kind + ", 0)", 0, x -> cell(x, 4, kind, 0));
            edge.refusedAlways("cell(4, " + kind + ", 1)", 0, x -> cell(x, 4, kind, 1));
        }
    }

    private static void tonsOfCoal(Edge edge) {
        edge.sentence(2, "COAL and PILLAR have tons (1 .. 999; at first)");
        for (int kind : WITH_TONS) {
            for (int tons : new int[] {1, 2, 998, 999}) {
                SeamFire x = new SeamFire(2, 2);
                edge.yes("cell(3, " + kind + ", " + tons + ")", x.cell(3, kind, tons));
                x.state(3, 99);
                edge.is("its tons", tons, x.burns(0, 0, 3, 1));
                edge.is("its tons in the last week", tons, x.burns(0, 99, 3, 1));
            }
            for (int tons : new int[] {0, -1, 1000, Edge.MIN, Edge.MAX}) {
                edge.refused("cell(4, " + kind + ", " + tons + ")", 0, x -> cell(x, 4, kind, tons), World.NEW,
                        World.BEGUN);
            }
        }
    }

    private static void tonsOfOthers(Edge edge) {
        edge.sentence(2, "tons 0 but for COAL and PILLAR");
        for (int kind : WITHOUT_TONS) {
            edge.yes("cell(4, " + kind + ", 0)", new SeamFire(4, 3).cell(4, kind, 0));
            for (int tons : new int[] {1, -1, 999, Edge.MIN, Edge.MAX}) {
                edge.refused("cell(4, " + kind + ", " + tons + ")", 0, x -> cell(x, 4, kind, tons), World.NEW,
                        World.BEGUN);
            }
        }
    }

    private static void clock(Edge edge) {
        edge.sentence(2, "False behind clock 0");
        SeamFire x = new SeamFire(4, 3);
        edge.yes("at 0", x.cell(0, 1, 5));
        x.weeks(1);
        edge.no("at 1", x.cell(0, 1, 6));
        Edge.until(x, 100);
        edge.no("at 100", x.cell(0, 1, 6));
        x.back();
        edge.yes("back at 0", x.cell(0, 1, 5));
        World[] behind = {World.LATER, World.FULL, World.READ, World.ENDED};
        edge.refused("cell(0, 1, 5)", 0, o -> cell(o, 0, 1, 5), behind);
        edge.refused("cell(0, 3, 0)", 0, o -> cell(o, 0, 3, 0), behind);
        edge.refusedAfter(4, 3, o -> {
            World.seam(o);
            o.weeks(1);
        }, "cell(10, 0, 0) at 1", 0, o -> cell(o, 10, 0, 0));
    }

    private static void toldAgain(Edge edge) {
        edge.sentence(2, "CELLS are told at clock 0 alone: and again there");
        SeamFire x = new SeamFire(2, 2);
        x.cell(0, 1, 999);
        x.state(0, 0);
        x.cell(0, 2, 3);
        edge.is("tons as told latest", 3, x.burns(0, 0, 0, 1));
        x.cell(0, 3, 0);
        edge.is("a ROOM has none", 0, x.burns(0, 0, 0, 1));
        edge.is("and doesn't BURN", 0, x.burns(0, 0, 0, 0));
        edge.is("it is a ROOM", 0, x.pour(0, 20));
        x.cell(0, 4, 0);
        edge.is("WATER is no ROOM", -1, x.pour(0, 1));
        x.cell(0, 1, 50);
        edge.is("COAL again BURNS", 1, x.burns(0, 0, 0, 0));
        noRoomAnyMore(edge);
    }

    private static void noRoomAnyMore(Edge edge) {
        for (int kind : new int[] {0, 1, 2, 4}) {
            SeamFire x = Edge.drawn(50, "ooc", "...");
            x.state(2, 99);
            x.hole(0);
            edge.is("AIR over the ROOM", 1, x.burns(0, 0, 2, 3));
            x.cell(1, kind, kind == 1 || kind == 2 ? 9 : 0);
            edge.is("none over kind " + kind, 0, x.burns(0, 0, 2, 3));
            edge.is("nor sand: 5 are left", 5, x.pour(0, 25));
            edge.is("fill(1)", 0, x.fill(1));
            x.cell(1, 3, 0);
            edge.is("AIR over the ROOM again", 1, x.burns(0, 0, 2, 3));
        }
    }
}
