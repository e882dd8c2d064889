/** Promise 8: trench. */
final class Promise08Trench {
    private static final int[] DX = {1, -1, 0, 0};
    private static final int[] DY = {0, 0, 1, -1};

    private Promise08Trench() {
    }

    static void tests(Edge edge) {
        allInTheSeam(edge);
        cells(edge);
        directions(edge);
        lengths(edge);
        each(edge);
        weeksOfCuts(edge);
        atTheEnd(edge);
        aboveNinetyNine(edge);
        ten(edge);
        wholeSeam(edge);
    }

    private static boolean fits(int w, int h, int c, int direction, int n) {
        int x = c % w + DX[direction] * (n - 1);
        int y = c / w + DY[direction] * (n - 1);
        return x >= 0 && x < w && y >= 0 && y < h;
    }

    private static void allInTheSeam(Edge edge) {
        edge.sentence(8, "from a CELL on in a direction n CELLS (all in THE SEAM)");
        int[][] sizes = {{2, 2}, {3, 2}, {2, 8}, {8, 2}, {5, 4}, {8, 8}};
        for (int[] size : sizes) {
            int w = size[0];
            int h = size[1];
            for (int c = 0; c < w * h; c++) {
                for (int d = 0; d < 4; d++) {
                    for (int n = 1; n <= 8; n++) {
                        edge.is("trench(" + c + ", " + d + ", " + n + ", 1) in " + w + " by " + h,
                                fits(w, h, c, d, n) ? 0 : -1, new SeamFire(w, h).trench(c, d, n, 1));
                    }
                }
            }
        }
        edge.refused("trench(3, 0, 2, 1)", -1, x -> x.trench(3, 0, 2, 1), World.furnished());
        edge.refused("trench(4, 1, 2, 1)", -1, x -> x.trench(4, 1, 2, 1), World.furnished());
        edge.refused("trench(8, 2, 2, 1)", -1, x -> x.trench(8, 2, 2, 1), World.furnished());
        edge.refused("trench(3, 3, 2, 1)", -1, x -> x.trench(3, 3, 2, 1), World.furnished());
        edge.refused("trench(0, 0, 5, 1)", -1, x -> x.trench(0, 0, 5, 1), World.furnished());
        edge.refused("trench(0, 2, 4, 1)", -1, x -> x.trench(0, 2, 4, 1), World.furnished());
    }

    private static void cells(Edge edge) {
        edge.sentence(8, "A TRENCH: its number. NONE for others");
        SeamFire x = new SeamFire(4, 3);
        edge.is("trench(0, 0, 1, 1)", 0, x.trench(0, 0, 1, 1));
        edge.is("trench(11, 1, 1, 1)", 1, x.trench(11, 1, 1, 1));
        edge.is("trench(12, 1, 1, 1)", -1, x.trench(12, 1, 1, 1));
        edge.is("trench(11, 3, 1, 1), no number is left out", 2, x.trench(11, 3, 1, 1));
        for (int c : new int[] {-1, 12, 64, Edge.MIN, Edge.MAX}) {
            for (int d = 0; d < 4; d++) {
                int direction = d;
                edge.refused("trench(" + c + ", " + d + ", 1, 1)", -1, o -> o.trench(c, direction, 1, 1), World.NEW,
                        World.BEGUN, World.LATER);
            }
        }
    }

    private static void directions(Edge edge) {
        edge.sentence(8, "a direction (0: x + 1, 1: x - 1, 2: y + 1, 3: y - 1)");
        for (int d = 0; d < 4; d++) {
            SeamFire x = Edge.seam(3, 3, 1, 50);
            x.state(0, 99);
            edge.is("trench(4, " + d + ", 2, 8)", 0, x.trench(4, d, 2, 8));
            int other = 4 + DX[d] + 3 * DY[d];
            for (int c = 0; c < 9; c++) {
                edge.is("tons of " + c, c == 4 || c == other ? 0 : 50, x.burns(0, 0, c, 1));
            }
        }
        for (int d : new int[] {-1, 4, Edge.MIN, Edge.MAX}) {
            edge.refusedAlways("trench(5, " + d + ", 1, 1)", -1, x -> x.trench(5, d, 1, 1));
        }
    }

    private static void lengths(Edge edge) {
        edge.sentence(8, "NONE for others (n 1 .. 8)");
        SeamFire x = Edge.seam(8, 8, 1, 50);
        x.state(63, 99);
        edge.is("n 1", 0, x.trench(8, 0, 1, 8));
        edge.is("the next is whole", 50, x.burns(0, 0, 9, 1));
        edge.is("n 8", 1, x.trench(0, 0, 8, 8));
        edge.is("its last is CUT", 0, x.burns(0, 0, 7, 1));
        for (int n : new int[] {0, -1, 9, Edge.MIN, Edge.MAX}) {
            edge.refusedAlways("trench(5, 0, " + n + ", 1)", -1, o -> o.trench(5, 0, n, 1));
            edge.refusedAlways("trench(5, 3, " + n + ", 1)", -1, o -> o.trench(5, 3, n, 1));
            edge.is("n " + n + " of 8 by 8", -1, x.trench(0, 2, n, 1));
        }
    }

    private static void each(Edge edge) {
        edge.sentence(8, "so many a WEEK (1 .. 8)");
        for (int n : new int[] {1, 8}) {
            edge.is("each " + n, 0, new SeamFire(4, 3).trench(5, 0, 1, n));
        }
        for (int n : new int[] {0, -1, 9, Edge.MIN, Edge.MAX}) {
            edge.refusedAlways("trench(5, 0, 1, " + n + ")", -1, o -> o.trench(5, 0, 1, n));
        }
    }

    private static void weeksOfCuts(Edge edge) {
        edge.sentence(8, "the i-th is CUT in WEEK b + i / that");
        for (int each = 1; each <= 8; each++) {
            SeamFire x = Edge.seam(8, 2, 1, 50);
            x.state(15, 99);
            x.weeks(3);
            x.trench(0, 0, 8, each);
            for (int i = 0; i < 8; i++) {
                int week = 3 + i / each;
                edge.is("the " + i + "th of " + each + " ahead of " + week, 50, x.burns(0, week - 1, i, 1));
                edge.is("the " + i + "th of " + each + " in " + week, 0, x.burns(0, week, i, 1));
            }
        }
    }

    private static void atTheEnd(Edge edge) {
        edge.sentence(8, "NONE at 100");
        SeamFire x = Edge.seam(2, 2, 1, 50);
        x.state(3, 0);
        Edge.until(x, 99);
        edge.is("at 99", 0, x.trench(0, 0, 1, 1));
        edge.is("CUT in 99", 0, x.burns(0, 99, 0, 1));
        edge.is("not in 98", 50, x.burns(0, 98, 0, 1));
        x.weeks(1);
        edge.is("at 100", -1, x.trench(1, 2, 1, 1));
        edge.is("not CUT", 50, x.burns(0, 99, 1, 1));
        edge.refused("trench(5, 0, 1, 1)", -1, o -> o.trench(5, 0, 1, 1), World.ENDED);
        edge.refused("trench(0, 0, 4, 8)", -1, o -> o.trench(0, 0, 4, 8), World.ENDED);
    }

    private static void aboveNinetyNine(Edge edge) {
        edge.sentence(8, "CUT in WEEK b + i / that (above 99: never)");
        for (int clock = 92; clock <= 99; clock++) {
            SeamFire x = Edge.seam(8, 2, 1, 50);
            x.state(15, 99);
            Edge.until(x, clock);
            x.trench(0, 0, 8, 1);
            for (int i = 0; i < 8; i++) {
                edge.is("the " + i + "th from " + clock + " on", clock + i <= 99 ? 0 : 50, x.burns(0, 99, i, 1));
            }
        }
    }

    private static void ten(Edge edge) {
        edge.sentence(8, "NONE if there are 10");
        SeamFire x = Edge.seam(4, 3, 1, 50);
        x.state(11, 99);
        for (int i = 0; i < 10; i++) {
            edge.is("trench", i, x.trench(i, 0, 1, 1));
        }
        edge.is("the 11th", -1, x.trench(10, 0, 1, 1));
        edge.is("how many", 10, x.about(4));
        edge.is("the tenth is CUT", 0, x.burns(0, 0, 9, 1));
        edge.is("the 11th isn't", 50, x.burns(0, 0, 10, 1));
        edge.refused("trench(10, 0, 1, 1)", -1, o -> o.trench(10, 0, 1, 1), World.FULL);
        edge.refused("trench(0, 0, 4, 8)", -1, o -> o.trench(0, 0, 4, 8), World.FULL);
    }

    private static void wholeSeam(Edge edge) {
        edge.sentence(8, "n CELLS (all in THE SEAM): the whole of it in one WEEK");
        SeamFire x = Edge.seam(8, 8, 1, 50);
        x.state(63, 0);
        for (int y = 0; y < 8; y++) {
            edge.is("a row", y, x.trench(8 * y, 0, 8, 8));
        }
        for (int c = 0; c < 64; c++) {
            edge.is("tons of " + c, 0, x.burns(0, 0, c, 1));
        }
        edge.is("none BURNS", 0, x.lost(0, 0));
    }
}
