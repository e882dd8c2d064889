/** Promise 3: rules. */
final class Promise03Rules {
    private Promise03Rules() {
    }

    static void tests(Edge edge) {
        atFirst(edge);
        bounds(edge);
        refused(edge);
        greatestCatch(edge);
        leastCatch(edge);
        rate(edge);
        draw(edge);
        allWeeks(edge);
    }

    private static void atFirst(Edge edge) {
        edge.sentence(3, "CATCH (1 .. 20; at first 3), RATE (1 .. 99; 10), DRAW (0 .. 30; 6)");
        SeamFire x = Edge.drawn(100, "oooooooo", "cccccccc");
        x.hole(0);
        x.state(8, 0);
        edge.is("CATCH 3: HEAT 2 in week 2", 2, x.burns(0, 2, 9, 2));
        edge.is("doesn't BURN", 0, x.burns(0, 2, 9, 0));
        edge.is("CATCH 3: HEAT 3 in week 3", 3, x.burns(0, 3, 9, 2));
        edge.is("BURNS", 1, x.burns(0, 3, 9, 0));
        edge.is("RATE 10", 90, x.burns(0, 1, 8, 1));
        edge.is("DRAW 6", 1, x.burns(0, 0, 6, 3));
        edge.is("not 7", 0, x.burns(0, 0, 7, 3));
    }

    private static void bounds(Edge edge) {
        edge.sentence(3, "CATCH, RATE, DRAW: true");
        int[][] good = {{1, 10, 6}, {20, 10, 6}, {3, 1, 6}, {3, 99, 6}, {3, 10, 0}, {3, 10, 30}, {1, 1, 0},
            {20, 99, 30}};
        for (int[] r : good) {
            edge.yes("rules(" + r[0] + ", " + r[1] + ", " + r[2] + ")", new SeamFire(2, 2).rules(r[0], r[1], r[2]));
        }
        SeamFire late = new SeamFire(2, 2);
        Edge.until(late, 100);
        edge.yes("at 100", late.rules(1, 1, 0));
    }

    private static void refused(Edge edge) {
        edge.sentence(3, "False, changing nothing, for others");
        int[][] wrong = {{0, 50, 20}, {21, 50, 20}, {5, 0, 20}, {5, 100, 20}, {5, 50, -1}, {5, 50, 31},
            {Edge.MIN, 50, 20}, {Edge.MAX, 50, 20}, {5, Edge.MIN, 20}, {5, Edge.MAX, 20}, {5, 50, Edge.MIN},
            {5, 50, Edge.MAX}, {-1, -1, -1}};
        for (int[] r : wrong) {
            edge.refusedAlways("rules(" + r[0] + ", " + r[1] + ", " + r[2] + ")", 0,
                    x -> x.rules(r[0], r[1], r[2]) ? 1 : 0);
        }
    }

    private static void greatestCatch(Edge edge) {
        edge.sentence(3, "CATCH 20: at CATCH or above it BURNS from the next WEEK's beginning on");
        SeamFire x = Edge.seam(2, 2, 1, 999);
        x.rules(20, 1, 0);
        x.state(0, 0);
        x.hole(1);
        edge.is("HEAT in week 19", 19, x.burns(0, 19, 1, 2));
        edge.is("below it", 0, x.burns(0, 19, 1, 0));
        edge.is("HEAT in week 20", 20, x.burns(0, 20, 1, 2));
        edge.is("at it", 1, x.burns(0, 20, 1, 0));
    }

    private static void leastCatch(Edge edge) {
        edge.sentence(3, "CATCH 1: at CATCH or above it BURNS from the next WEEK's beginning on");
        SeamFire x = Edge.seam(2, 2, 1, 999);
        x.rules(1, 1, 0);
        x.state(0, 5);
        x.hole(1);
        edge.is("at the beginning of week 5", 0, x.burns(0, 5, 1, 0));
        edge.is("HEAT then", 0, x.burns(0, 5, 1, 2));
        edge.is("at the beginning of week 6", 1, x.burns(0, 6, 1, 0));
        edge.is("without AIR never", 0, x.burns(0, 99, 2, 0));
    }

    private static void rate(Edge edge) {
        edge.sentence(3, "RATE: a CELL that BURNS loses RATE tons with AIR, RATE / 2, cut, without");
        int[][] rows = {{1, 998, 999}, {2, 997, 998}, {3, 996, 998}, {98, 901, 950}, {99, 900, 950}};
        for (int[] row : rows) {
            SeamFire x = Edge.seam(2, 2, 1, 999);
            x.rules(20, row[0], 0);
            x.state(0, 0);
            x.state(3, 0);
            x.hole(0);
            edge.is("RATE " + row[0] + " with AIR", row[1], x.burns(0, 1, 0, 1));
            edge.is("RATE " + row[0] + " without", row[2], x.burns(1, 1, 3, 1));
        }
    }

    /** Rooms go to and fro from row to row, 35 in all; the coal is beside the last. */
    private static void draw(Edge edge) {
        edge.sentence(3, "DRAW: the fewest count; up to DRAW");
        SeamFire x = Edge.drawn(9, "oooooooo", "cwwwwwwo", "oooooooo", "owwwwwww", "oooooooo", "wwwwwwwo",
                "oooooooo", "wwwwwwww");
        int[] way = new int[35];
        for (int i = 0; i < 35; i++) {
            int row = i / 9;
            int in = i % 9;
            int step = row % 2 == 0 ? Math.min(in, 7) : 7 - Math.min(in, 7);
            way[i] = (2 * row + (in == 8 ? 1 : 0)) * 8 + step;
        }
        x.state(8, 0);
        x.hole(0);
        for (int draw : new int[] {0, 1, 2, 29, 30}) {
            edge.yes("rules(3, 10, " + draw + ")", x.rules(3, 10, draw));
            for (int i : new int[] {0, 1, 2, 3, 28, 29, 30, 31, 34}) {
                edge.is("AIR " + i + " steps away by DRAW " + draw, i <= draw ? 1 : 0, x.burns(0, 0, way[i], 3));
            }
        }
    }

    private static void allWeeks(Edge edge) {
        edge.sentence(3, "RULES: the same for all WEEKS");
        SeamFire x = Edge.seam(2, 2, 1, 999);
        x.state(0, 0);
        Edge.until(x, 100);
        edge.is("week 1 by RATE 10", 994, x.burns(0, 1, 0, 1));
        edge.yes("rules(3, 20, 6)", x.rules(3, 20, 6));
        edge.is("week 1 by RATE 20", 989, x.burns(0, 1, 0, 1));
        edge.is("week 99 by RATE 20", 999 - 99 * 10, x.burns(0, 99, 0, 1));
    }
}
