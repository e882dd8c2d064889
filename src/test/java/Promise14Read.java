/** Promise 14: read. */
final class Promise14Read {
    private Promise14Read() {
    }

    static void tests(Edge edge) {
        cells(edge);
        weeks(edge);
        atTheEnd(edge);
        twoHundred(edge);
        burnedOrNot(edge);
    }

    private static long read(SeamFire x, int cell, int week, boolean burned) {
        return x.read(cell, week, burned);
    }

    private static void cells(Edge edge) {
        edge.sentence(14, "A READING is TOLD: how many were. NONE for others");
        SeamFire x = new SeamFire(4, 3);
        edge.is("read(0, 0, true)", 1, x.read(0, 0, true));
        edge.is("read(11, 0, false)", 2, x.read(11, 0, false));
        edge.is("read(12, 0, false)", -1, x.read(12, 0, false));
        edge.is("read(0, 0, true) once more counts", 3, x.read(0, 0, true));
        edge.is("about(6)", 3, x.about(6));
        for (int c : new int[] {-1, 12, 64, Edge.MIN, Edge.MAX}) {
            edge.refusedAlways("read(" + c + ", 0, true)", -1, o -> read(o, c, 0, true));
            edge.refusedAlways("read(" + c + ", 0, false)", -1, o -> read(o, c, 0, false));
        }
    }

    private static void weeks(Edge edge) {
        edge.sentence(14, "of a CELL in a WEEK (0 .. 99) below or at the clock's");
        for (int clock : new int[] {0, 1, 50, 98, 99}) {
            SeamFire x = new SeamFire(2, 2);
            Edge.until(x, clock);
            edge.is("WEEK 0 at " + clock, 1, x.read(0, 0, true));
            edge.is("the clock's at " + clock, 2, x.read(0, clock, true));
            edge.is("one above at " + clock, -1, x.read(0, clock + 1, true));
            edge.is("WEEK -1 at " + clock, -1, x.read(0, -1, true));
            edge.is("about(6)", 2, x.about(6));
        }
        for (int week : new int[] {-1, 100, Edge.MIN, Edge.MAX}) {
            edge.refusedAlways("read(0, " + week + ", true)", -1, o -> read(o, 0, week, true));
            edge.refusedAlways("read(0, " + week + ", false)", -1, o -> read(o, 0, week, false));
        }
        edge.refused("read(0, 1, true)", -1, o -> read(o, 0, 1, true), World.NEW, World.BEGUN);
        edge.refused("read(0, 8, true)", -1, o -> read(o, 0, 8, true), World.LATER);
        edge.refused("read(0, 3, true)", -1, o -> read(o, 0, 3, true), World.FULL);
    }

    private static void atTheEnd(Edge edge) {
        edge.sentence(14, "a WEEK (0 .. 99): at clock 100 it is 99 at most");
        SeamFire x = Edge.seam(2, 2, 1, 999);
        x.state(0, 99);
        Edge.until(x, 100);
        edge.is("read(0, 100, true)", -1, x.read(0, 100, true));
        edge.is("read(0, 99, true)", 1, x.read(0, 99, true));
        edge.is("it is so", 1, x.let(0, 100));
        edge.is("read(0, 98, true)", 2, x.read(0, 98, true));
        edge.is("it isn't", 0, x.let(0, 100));
        edge.is("TOLD at 100, not ahead", 1, x.let(0, 99));
    }

    private static void twoHundred(Edge edge) {
        edge.sentence(14, "NONE if 200 were");
        SeamFire x = Edge.seam(2, 2, 1, 999);
        x.state(0, 0);
        for (int i = 1; i < 200; i++) {
            edge.is("read " + i, i, x.read(0, 0, true));
        }
        edge.is("LET by 199", 1, x.let(0, 0));
        edge.is("the 200th", 200, x.read(3, 0, true));
        edge.is("it counts", 0, x.let(0, 0));
        edge.is("the 201st", -1, x.read(0, 0, true));
        edge.is("about(6)", 200, x.about(6));
        edge.refused("read(0, 0, true)", -1, o -> read(o, 0, 0, true), World.READ);
        edge.refused("read(0, 2, false)", -1, o -> read(o, 0, 2, false), World.READ);
        edge.refused("read(11, 2, true)", -1, o -> read(o, 11, 2, true), World.READ);
    }

    private static void burnedOrNot(Edge edge) {
        edge.sentence(14, "it BURNED at the beginning of it, or not");
        int[][] rows = {{4, 0, 0}, {5, 1, 0}, {6, 1, 0}, {7, 0, 2}};
        for (int[] row : rows) {
            SeamFire x = Edge.drawn(20, "c.", "..");
            x.rules(9, 10, 0);
            x.state(0, 5);
            x.hole(0);
            Edge.until(x, 10);
            edge.is("how it is in " + row[0], row[1] + row[2], x.burns(0, row[0], 0, 0));
            x.image();
            x.read(0, row[0], true);
            edge.is("BURNED in " + row[0], row[1], x.let(0, 10));
            x.back();
            x.read(0, row[0], false);
            edge.is("not in " + row[0], 1 - row[1], x.let(0, 10));
        }
    }
}
