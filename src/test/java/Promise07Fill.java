/** Promise 7: fill. */
final class Promise07Fill {
    private Promise07Fill() {
    }

    static void tests(Edge edge) {
        cells(edge);
        leastAndGreatest(edge);
        otherKinds(edge);
        now(edge);
        cellsToldAgain(edge);
        asksAlone(edge);
    }

    private static void cells(Edge edge) {
        edge.sentence(7, "FILL of a CELL now. NONE for others");
        for (int w = 2; w <= 8; w++) {
            for (int h = 2; h <= 8; h++) {
                SeamFire x = new SeamFire(w, h);
                edge.is("fill(0)", 0, x.fill(0));
                edge.is("fill of the last", 0, x.fill(w * h - 1));
                edge.is("fill beyond it", -1, x.fill(w * h));
            }
        }
        for (int c : new int[] {-1, 12, 64, Edge.MIN, Edge.MAX}) {
            edge.refusedAlways("fill(" + c + ")", -1, x -> x.fill(c));
        }
    }

    private static void leastAndGreatest(Edge edge) {
        edge.sentence(7, "FILL of a ROOM (0 .. 20 tons)");
        SeamFire x = Edge.drawn(9, "o.", "..");
        edge.is("nothing was POURED", 0, x.fill(0));
        for (int i = 1; i <= 20; i++) {
            x.pour(0, 1);
            edge.is("fill(0)", i, x.fill(0));
        }
        x.pour(0, 1);
        edge.is("full", 20, x.fill(0));
        x.pour(0, 1000);
        edge.is("full still", 20, x.fill(0));
    }

    private static void otherKinds(Edge edge) {
        edge.sentence(7, "FILL of a CELL: none comes to one that is no ROOM");
        SeamFire x = Edge.drawn(9, "oc.", "pwo");
        x.pour(0, 1000);
        for (int c = 0; c < 6; c++) {
            edge.is("fill(" + c + ")", c == 0 ? 20 : 0, x.fill(c));
        }
    }

    private static void now(Edge edge) {
        edge.sentence(7, "FILL of a CELL now");
        SeamFire x = Edge.drawn(9, "o.", ".o");
        x.pour(0, 5);
        edge.is("in the WEEK of the pouring", 5, x.fill(0));
        x.image();
        Edge.until(x, 100);
        edge.is("at 100", 5, x.fill(0));
        x.back();
        x.pour(0, 5);
        x.pour(3, 1);
        x.trench(0, 0, 1, 1);
        x.weeks(2);
        edge.is("CUT", 10, x.fill(0));
        x.back();
        edge.is("back", 5, x.fill(0));
        edge.is("back", 0, x.fill(3));
    }

    private static void cellsToldAgain(Edge edge) {
        edge.sentence(7, "FILL of a CELL now: it stays, whatever the CELL is told as");
        for (int fill : new int[] {1, 19, 20}) {
            for (int kind = 0; kind <= 4; kind++) {
                SeamFire x = Edge.drawn(9, "o.", "..");
                x.pour(0, fill);
                edge.yes("cell(0, " + kind + ", ..)", x.cell(0, kind, kind == 1 || kind == 2 ? 7 : 0));
                edge.is("fill(0)", fill, x.fill(0));
                x.cell(0, 3, 0);
                edge.is("fill(0) of the ROOM again", fill, x.fill(0));
                edge.is("what it still takes", fill, x.pour(0, 20));
            }
        }
    }

    private static void asksAlone(Edge edge) {
        edge.sentence(7, "Nothing beyond the answers and state changes described: it asks alone");
        edge.asksAlone("fill(9)", o -> o.fill(9));
    }
}
