/** Promise 17: parts. */
final class Promise17Parts {
    private Promise17Parts() {
    }

    static void tests(Edge edge) {
        weeks(edge);
        none(edge);
        theLesser(edge);
        theLowest(edge);
        asKnownNow(edge);
        asksAlone(edge);
    }

    private static void weeks(Edge edge) {
        edge.sentence(17, "PARTS MOST as KNOWN now: the CELL. NONE for others");
        SeamFire x = Edge.seam(4, 2, 1, 999);
        x.state(7, 0);
        x.state(7, 99);
        edge.is("parts(0)", 7, x.parts(0));
        edge.is("parts(98)", 7, x.parts(98));
        edge.is("parts(99)", -1, x.parts(99));
        edge.is("parts(100)", -1, x.parts(100));
        for (int week : new int[] {-1, 100, Edge.MIN, Edge.MAX}) {
            edge.refusedAlways("parts(" + week + ")", -1, o -> o.parts(week));
        }
    }

    private static void none(Edge edge) {
        edge.sentence(17, "NONE: none does; none if it is 0");
        SeamFire x = Edge.seam(4, 2, 1, 999);
        edge.is("no STATE", -1, x.parts(0));
        x.state(3, 0);
        edge.is("one STATE", -1, x.parts(0));
        x.state(3, 0);
        edge.is("two that agree", -1, x.parts(0));
        x.state(3, 5);
        edge.is("in 4 they don't", 3, x.parts(4));
        edge.is("in 5 they do", -1, x.parts(5));
        x.read(0, 0, true);
        edge.is("none is LET", -1, x.parts(4));
    }

    private static void theLesser(Edge edge) {
        edge.sentence(17, "the lesser of how many have it BURN and how many don't is greatest");
        SeamFire x = Edge.seam(4, 2, 1, 999);
        for (int i = 0; i < 5; i++) {
            x.state(1, 0);
        }
        for (int i = 0; i < 3; i++) {
            x.state(6, i);
        }
        edge.is("1: 5 of 8, so 3; 6: 1 of 8", 1, x.parts(0));
        edge.is("1 and 6: 3 each", 1, x.parts(2));
        SeamFire y = Edge.seam(4, 2, 1, 999);
        for (int i = 0; i < 4; i++) {
            y.state(6, 0);
        }
        for (int i = 0; i < 3; i++) {
            y.state(1, 0);
        }
        y.state(0, 0);
        edge.is("6: 4 of 8, so 4; 1: 3", 6, y.parts(0));
        SeamFire z = Edge.seam(4, 2, 1, 999);
        for (int i = 0; i < 7; i++) {
            z.state(0, 0);
        }
        z.state(7, 9);
        edge.is("0: 7 of 8, so 1", 0, z.parts(0));
        edge.is("7: 1 of 8, so 1: like it", 0, z.parts(9));
    }

    private static void theLowest(Edge edge) {
        edge.sentence(17, "of like ones the lowest");
        for (int c = 0; c < 63; c++) {
            SeamFire x = Edge.seam(8, 8, 1, 999);
            x.state(63, 0);
            x.state(c, 0);
            edge.is("of " + c + " and 63", c, x.parts(0));
        }
        SeamFire x = Edge.seam(8, 8, 1, 999);
        x.state(63, 0);
        x.state(63, 1);
        edge.is("the last alone", 63, x.parts(0));
    }

    private static void asKnownNow(Edge edge) {
        edge.sentence(17, "as KNOWN now");
        SeamFire x = Edge.seam(4, 2, 1, 999);
        x.state(2, 0);
        x.state(5, 0);
        x.state(5, 3);
        edge.is("all three", 2, x.parts(0));
        x.weeks(1);
        x.read(2, 1, false);
        edge.is("the two that are LET", 5, x.parts(0));
        edge.is("in 3 they agree", -1, x.parts(3));
        x.image();
        x.read(5, 1, true);
        edge.is("one is LET", -1, x.parts(0));
        x.back();
        edge.is("two are LET again", 5, x.parts(0));
        Edge.until(x, 100);
        edge.is("at 100", 5, x.parts(0));
    }

    private static void asksAlone(Edge edge) {
        edge.sentence(17, "Nothing beyond the answers and state changes described: it asks alone");
        edge.asksAlone("parts(60)", o -> o.parts(60));
    }
}
