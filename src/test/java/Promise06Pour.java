/** Promise 6: pour. */
final class Promise06Pour {
    private Promise06Pour() {
    }

    static void tests(Edge edge) {
        tons(edge);
        cells(edge);
        asItWasTold(edge);
        upToTwenty(edge);
        byHowFar(edge);
        overRoomsAlone(edge);
        noWrapAround(edge);
        left(edge);
        longWay(edge);
        atTheEnd(edge);
        forty(edge);
        week(edge);
    }

    private static int[] fills(SeamFire x, int n) {
        int[] row = new int[n];
        for (int c = 0; c < n; c++) {
            row[c] = x.fill(c);
        }
        return row;
    }

    private static void tons(Edge edge) {
        edge.sentence(6, "POURED (tons 1 .. 1000): what is left. NONE for others");
        for (int tons : new int[] {1, 2, 999, 1000}) {
            SeamFire x = Edge.drawn(9, "o.", "..");
            edge.is("pour(0, " + tons + ")", Math.max(0, tons - 20), x.pour(0, tons));
            edge.is("fill(0)", Math.min(20, tons), x.fill(0));
        }
        for (int tons : new int[] {0, -1, 1001, Edge.MIN, Edge.MAX}) {
            edge.refusedAlways("pour(2, " + tons + ")", -1, x -> x.pour(2, tons));
            edge.refusedAlways("pour(9, " + tons + ")", -1, x -> x.pour(9, tons));
        }
    }

    private static void cells(Edge edge) {
        edge.sentence(6, "NONE for others");
        for (int c : new int[] {-1, 12, 64, Edge.MIN, Edge.MAX}) {
            edge.refusedAlways("pour(" + c + ", 5)", -1, x -> x.pour(c, 5));
        }
        SeamFire x = Edge.seam(8, 8, 3, 0);
        edge.is("pour(63, 5) of 8 by 8", 0, x.pour(63, 5));
        edge.is("pour(0, 5) of 8 by 8", 0, x.pour(0, 5));
        edge.is("pour(64, 5) of 8 by 8", -1, x.pour(64, 5));
        edge.is("fill(63)", 5, x.fill(63));
    }

    private static void asItWasTold(Edge edge) {
        edge.sentence(6, "NONE for no ROOM (as it was told)");
        int[] noRooms = {0, 3, 8, 11};
        for (int c : noRooms) {
            edge.refused("pour(" + c + ", 5)", -1, x -> x.pour(c, 5), World.furnished());
        }
        SeamFire x = Edge.drawn(5, "oc", "wc");
        x.rules(1, 10, 6);
        x.state(1, 0);
        x.hole(1);
        x.trench(0, 0, 1, 1);
        edge.is("a ROOM that is CUT was told as one", 0, x.pour(0, 5));
        x.weeks(3);
        edge.is("and later", 0, x.pour(0, 5));
        edge.is("COAL that is BURNT", 2, x.burns(0, 3, 1, 0));
        edge.is("was not", -1, x.pour(1, 5));
    }

    private static void upToTwenty(Edge edge) {
        edge.sentence(6, "tons come to it, up to 20; what is left over runs on");
        SeamFire x = Edge.drawn(9, "oo", "..");
        edge.is("pour(0, 19)", 0, x.pour(0, 19));
        edge.are("fill", new int[] {19, 0, 0, 0}, fills(x, 4));
        edge.is("pour(0, 1)", 0, x.pour(0, 1));
        edge.are("fill", new int[] {20, 0, 0, 0}, fills(x, 4));
        edge.is("pour(0, 1)", 0, x.pour(0, 1));
        edge.are("fill", new int[] {20, 1, 0, 0}, fills(x, 4));
        SeamFire y = Edge.drawn(9, "oo", "..");
        edge.is("pour(1, 21)", 0, y.pour(1, 21));
        edge.are("fill", new int[] {1, 20, 0, 0}, fills(y, 4));
    }

    private static void byHowFar(Edge edge) {
        edge.sentence(6, "ROOMS are filled by how far they are from it, of like ones the lowest CELL");
        SeamFire x = Edge.seam(3, 3, 3, 0);
        int[] order = {4, 1, 3, 5, 7, 0, 2, 6, 8};
        int[] want = new int[9];
        for (int c : order) {
            edge.is("pour(4, 20)", 0, x.pour(4, 20));
            want[c] = 20;
            edge.are("fill", want, fills(x, 9));
        }
        edge.is("none can take more", 1, x.pour(4, 1));
        SeamFire y = Edge.seam(3, 3, 3, 0);
        y.pour(8, 15);
        edge.is("to the last ton", 0, y.pour(0, 165));
        edge.are("fill", new int[] {20, 20, 20, 20, 20, 20, 20, 20, 20}, fills(y, 9));
    }

    private static void overRoomsAlone(Edge edge) {
        edge.sentence(6, "steps over ROOMS, from NEIGHBOUR to NEIGHBOUR, full ones too");
        SeamFire x = Edge.drawn(9, "oco", "ooo", "...");
        edge.is("pour(0, 60)", 0, x.pour(0, 60));
        edge.are("2 is four steps away, 5 is three", new int[] {20, 0, 0, 20, 20, 0, 0, 0, 0}, fills(x, 9));
        edge.is("pour(0, 25) over full ones", 0, x.pour(0, 25));
        edge.are("fill", new int[] {20, 0, 5, 20, 20, 20, 0, 0, 0}, fills(x, 9));
        for (String wall : new String[] {"c", "p", "w", "."}) {
            SeamFire y = Edge.drawn(9, "o" + wall + "o", ".w.");
            edge.is("pour(0, 30) beside " + wall, 10, y.pour(0, 30));
            edge.are("fill", new int[] {20, 0, 0, 0, 0, 0}, fills(y, 6));
        }
        SeamFire z = Edge.drawn(9, "o.", ".o");
        edge.is("no step aslant", 5, z.pour(0, 25));
    }

    private static void noWrapAround(Edge edge) {
        edge.sentence(6, "from NEIGHBOUR to NEIGHBOUR: not from the end of a row to the next");
        for (int w = 2; w <= 8; w++) {
            for (int y = 1; y < 8; y++) {
                SeamFire x = new SeamFire(w, 8);
                x.cell(y * w - 1, 3, 0);
                x.cell(y * w, 3, 0);
                edge.is("pour at the end of a row of " + w, 5, x.pour(y * w - 1, 25));
                edge.is("pour at the beginning of the next", 5, x.pour(y * w, 25));
            }
        }
        SeamFire x = new SeamFire(8, 8);
        for (int c : new int[] {0, 7, 56, 63}) {
            x.cell(c, 3, 0);
        }
        edge.is("nor from the last row to the first", 5, x.pour(63, 25));
        edge.is("nor back", 5, x.pour(0, 25));
        edge.is("nor from the first row to the last", 5, x.pour(7, 25));
        edge.is("nor back", 5, x.pour(56, 25));
    }

    private static void left(Edge edge) {
        edge.sentence(6, "what none can take is left");
        SeamFire x = Edge.seam(2, 2, 3, 0);
        edge.is("79 of 80", 0, x.pour(3, 79));
        edge.is("one more", 0, x.pour(3, 1));
        edge.is("and one more", 1, x.pour(3, 1));
        edge.is("1000 more", 1000, x.pour(0, 1000));
        SeamFire y = Edge.seam(2, 2, 3, 0);
        edge.is("80 of 80", 0, y.pour(3, 80));
        SeamFire z = Edge.seam(2, 2, 3, 0);
        edge.is("81 of 80", 1, z.pour(3, 81));
        SeamFire all = Edge.seam(8, 8, 3, 0);
        edge.is("1000 of 1280", 0, all.pour(0, 1000));
        edge.is("280 of 280", 0, all.pour(63, 280));
        edge.is("64 ROOMS are full", 1, all.pour(27, 1));
        for (int c = 0; c < 64; c++) {
            edge.is("fill(" + c + ")", 20, all.fill(c));
        }
    }

    private static void longWay(Edge edge) {
        edge.sentence(6, "what is left over runs on: to the last ROOM of the longest way");
        SeamFire x = Edge.drawn(9, "oooooooo", ".......o", "oooooooo", "o.......", "oooooooo", ".......o",
                "oooooooo", "........");
        edge.is("680 fill 34", 0, x.pour(0, 680));
        edge.is("the last is 48", 0, x.fill(48));
        edge.is("20 run to it", 0, x.pour(0, 20));
        edge.is("fill(48)", 20, x.fill(48));
        edge.is("all are full", 1000, x.pour(0, 1000));
    }

    private static void atTheEnd(Edge edge) {
        edge.sentence(6, "NONE at 100");
        SeamFire x = Edge.seam(2, 2, 3, 0);
        Edge.until(x, 99);
        edge.is("at 99", 0, x.pour(0, 3));
        x.weeks(1);
        edge.is("at 100", -1, x.pour(0, 3));
        edge.is("fill(0)", 3, x.fill(0));
        edge.refused("pour(9, 1)", -1, o -> o.pour(9, 1), World.ENDED);
        edge.refused("pour(2, 1000)", -1, o -> o.pour(2, 1000), World.ENDED);
    }

    private static void forty(Edge edge) {
        edge.sentence(6, "NONE if 40 were");
        SeamFire x = Edge.seam(2, 2, 3, 0);
        x.pour(0, 0);
        x.pour(4, 5);
        for (int i = 0; i < 40; i++) {
            edge.is("pour " + i, 0, x.pour(i % 4, 1));
        }
        edge.is("the 41st", -1, x.pour(0, 1));
        edge.are("fill", new int[] {10, 10, 10, 10}, fills(x, 4));
        x.weeks(1);
        edge.is("a week later", -1, x.pour(0, 1));
        SeamFire y = Edge.drawn(9, "o.", "..");
        y.pour(0, 20);
        for (int i = 1; i < 40; i++) {
            edge.is("what takes none counts too", 1000, y.pour(0, 1000));
        }
        edge.is("the 41st", -1, y.pour(0, 1));
        edge.refused("pour(9, 1)", -1, o -> o.pour(9, 1), World.FULL);
        edge.refused("pour(2, 1000)", -1, o -> o.pour(2, 1000), World.FULL);
    }

    private static void week(Edge edge) {
        edge.sentence(6, "in the clock's WEEK: the FILL poured ahead of m");
        for (int clock : new int[] {0, 1, 60, 98}) {
            SeamFire x = Edge.drawn(999, "oc", "..");
            x.rules(9, 1, 6);
            x.state(1, 0);
            x.hole(0);
            Edge.until(x, clock);
            x.pour(0, 20);
            edge.is("AIR ahead of " + clock, clock == 0 ? -1 : 1, x.burns(0, clock - 1, 1, 3));
            edge.is("AIR in " + clock, 1, x.burns(0, clock, 1, 3));
            edge.is("AIR behind " + clock, 0, x.burns(0, clock + 1, 1, 3));
            edge.is("AIR in 99", 0, x.burns(0, 99, 1, 3));
        }
        SeamFire y = Edge.drawn(999, "oc", "..");
        y.rules(9, 10, 6);
        y.state(1, 0);
        y.hole(0);
        y.weeks(3);
        edge.is("tons in 5, asked ahead of it", 949, y.burns(0, 5, 1, 1));
        y.pour(0, 20);
        edge.is("tons in 5", 954, y.burns(0, 5, 1, 1));
        edge.is("tons in 4", 959, y.burns(0, 4, 1, 1));
    }
}
