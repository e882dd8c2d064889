/** Promise 35: best. */
final class Promise35Best {
    private Promise35Best() {
    }

    static void tests(Edge edge) {
        numbers(edge);
        weeks(edge);
        noneIsLet(edge);
        noPlaces(edge);
        notAboveTheCoins(edge);
        leastLost(edge);
        leastCost(edge);
        lowestSet(edge);
        allSix(edge);
        greatestOfStates(edge);
        fromTheClocksWeek(edge);
        nothingIsChanged(edge);
        noneAndAllLost(edge);
        firstCell(edge);
        asksAgain(edge);
        heatThatIsThere(edge);
    }

    /**
     * Coal 0 burns from week 0 on. Rooms 2, 4, 5 bring air from the hole in 5 to coal 1 over 2 (and
     * over 4), and to coal 3 over 4.
     */
    private static SeamFire seam() {
        SeamFire x = Edge.drawn(900, "cco", "coo");
        x.rules(1, 1, 9);
        x.state(0, 0);
        x.hole(5);
        return x;
    }

    private static void asks(Edge edge, SeamFire x, int coins, int week, int... setCostLost) {
        for (int what = 0; what < 3; what++) {
            edge.is("best(" + coins + ", " + week + ", " + what + ")", setCostLost[what], x.best(coins, week, what));
        }
    }

    private static void numbers(Edge edge) {
        edge.sentence(35, "BEST for coins (0 .. 99999): 0 the set, 1 its COST, 2 the greatest LOST. NONE for others");
        SeamFire x = seam();
        asks(edge, x, 0, 1, 0, 0, 3);
        asks(edge, x, 99999, 1, 0, 0, 3);
        for (int what = 0; what < 3; what++) {
            int of = what;
            for (int coins : new int[] {-1, 100000, Edge.MIN, Edge.MAX}) {
                edge.refusedAlways("best(" + coins + ", 9, " + what + ")", -1, o -> o.best(coins, 9, of));
            }
            for (int week : new int[] {-1, 100, Edge.MIN, Edge.MAX}) {
                edge.refusedAlways("best(50, " + week + ", " + what + ")", -1, o -> o.best(50, week, of));
            }
        }
        for (int what : new int[] {-1, 3, Edge.MIN, Edge.MAX}) {
            edge.refusedAlways("best(50, 9, " + what + ")", -1, o -> o.best(50, 9, what));
        }
    }

    private static void weeks(Edge edge) {
        edge.sentence(35, "at a WEEK (the clock's to 30 later; 99 at most)");
        for (int clock : new int[] {0, 1, 40, 68, 69, 70, 98, 99}) {
            SeamFire x = seam();
            Edge.until(x, clock);
            int last = Math.min(99, clock + 30);
            edge.is("ahead of " + clock, -1, x.best(0, clock - 1, 1));
            edge.is("in " + clock, 0, x.best(0, clock, 1));
            edge.is("in " + last + " at " + clock, 0, x.best(0, last, 1));
            edge.is("behind " + last + " at " + clock, -1, x.best(0, last + 1, 1));
        }
        SeamFire x = seam();
        Edge.until(x, 100);
        edge.is("WEEK 99 at 100", -1, x.best(0, 99, 1));
        edge.is("WEEK 100 at 100", -1, x.best(0, 100, 1));
        edge.refused("best(0, 31, 0)", -1, o -> o.best(0, 31, 0), World.BEGUN, World.NEW);
        edge.refused("best(0, 38, 0)", -1, o -> o.best(0, 38, 0), World.LATER);
        edge.refused("best(0, 6, 0)", -1, o -> o.best(0, 6, 0), World.LATER, World.ENDED);
    }

    private static void noneIsLet(Edge edge) {
        edge.sentence(35, "NONE if no STATE is LET");
        SeamFire x = Edge.drawn(900, "cco", "coo");
        x.place(2, 0);
        edge.is("no STATE", -1, x.best(0, 0, 0));
        x.state(0, 0);
        edge.is("one", 0, x.best(0, 0, 0));
        x.read(0, 0, false);
        for (int what = 0; what < 3; what++) {
            edge.is("none is LET", -1, x.best(99999, 0, what));
        }
        edge.refusedAfter(4, 3, o -> {
            World.BEGUN.make(o);
            o.read(11, 0, true);
        }, "best(99999, 9, 0)", -1, o -> o.best(99999, 9, 0));
    }

    private static void noPlaces(Edge edge) {
        edge.sentence(35, "of all sets of PLACES: the empty one where there are none");
        asks(edge, seam(), 500, 0, 0, 0, 1);
        asks(edge, seam(), 500, 30, 0, 0, 3);
    }

    private static void notAboveTheCoins(Edge edge) {
        edge.sentence(35, "with COST not above the coins");
        SeamFire x = seam();
        x.place(4, 60);
        x.place(2, 40);
        asks(edge, x, 59, 5, 0, 0, 3);
        asks(edge, x, 60, 5, 1, 60, 2);
        asks(edge, x, 99, 5, 1, 60, 2);
        asks(edge, x, 100, 5, 3, 100, 1);
        asks(edge, x, 99999, 5, 3, 100, 1);
        asks(edge, x, 0, 5, 0, 0, 3);
        SeamFire free = seam();
        free.place(4, 0);
        free.place(2, 0);
        asks(edge, free, 0, 5, 3, 0, 1);
        SeamFire dear = seam();
        dear.place(4, 9999);
        dear.place(2, 9999);
        asks(edge, dear, 19997, 5, 1, 9999, 2);
        asks(edge, dear, 19998, 5, 3, 19998, 1);
    }

    private static void leastLost(Edge edge) {
        edge.sentence(35, "the one with the least of the greatest LOST at the beginning of that WEEK");
        SeamFire x = seam();
        x.place(4, 60);
        x.place(2, 40);
        asks(edge, x, 99999, 0, 0, 0, 1);
        asks(edge, x, 99999, 1, 3, 100, 1);
        asks(edge, x, 99999, 30, 3, 100, 1);
        x.place(5, 30);
        asks(edge, x, 99999, 1, 3, 100, 1);
    }

    private static void leastCost(Edge edge) {
        edge.sentence(35, "of like ones the least COST");
        SeamFire x = seam();
        x.place(4, 60);
        x.place(4, 59);
        asks(edge, x, 99999, 5, 2, 59, 2);
        x.place(4, 58);
        asks(edge, x, 99999, 5, 4, 58, 2);
        asks(edge, x, 57, 5, 0, 0, 3);
        x.place(4, 0);
        asks(edge, x, 99999, 5, 8, 0, 2);
    }

    private static void lowestSet(Edge edge) {
        edge.sentence(35, "then the lowest set as a number");
        SeamFire x = seam();
        x.place(4, 7);
        x.place(4, 7);
        x.place(4, 7);
        asks(edge, x, 99999, 5, 1, 7, 2);
        SeamFire y = seam();
        y.place(5, 0);
        y.place(4, 0);
        y.place(4, 0);
        asks(edge, y, 99999, 5, 2, 0, 2);
        SeamFire z = seam();
        z.place(2, 10);
        z.place(2, 5);
        z.place(4, 5);
        z.place(4, 10);
        asks(edge, z, 99999, 5, 6, 10, 1);
    }

    /** Six pairs of coal: a state lights the first of a pair, its room brings air to the second. */
    private static void allSix(Edge edge) {
        edge.sentence(35, "PLACES 0 .. 5: all of them, to set 63");
        SeamFire x = Edge.drawn(900, "cco.cco.", "........", "cco.cco.", "........", "cco.cco.", "........");
        x.rules(1, 1, 9);
        int[] first = {0, 4, 16, 20, 32, 36};
        for (int i = 0; i < 6; i++) {
            x.state(first[i], 0);
            x.hole(first[i] + 2);
            edge.is("place", i, x.place(first[i] + 2, 10 + i));
        }
        asks(edge, x, 75, 5, 63, 75, 1);
        asks(edge, x, 74, 5, 0, 0, 2);
        asks(edge, x, 99999, 30, 63, 75, 1);
        x.read(0, 0, false);
        asks(edge, x, 75, 5, 62, 65, 1);
        x.read(36, 0, false);
        asks(edge, x, 75, 5, 30, 50, 1);
    }

    private static void greatestOfStates(Edge edge) {
        edge.sentence(35, "the greatest LOST of STATES that are LET as KNOWN now");
        SeamFire x = Edge.drawn(900, "cco.", "....", "cco.", "c...");
        x.rules(1, 1, 9);
        x.hole(2);
        x.hole(10);
        x.hole(12);
        x.state(0, 0);
        x.state(8, 0);
        x.place(2, 5);
        x.place(10, 5);
        edge.is("lost by the first", 2, x.lost(0, 5));
        edge.is("lost by the second", 3, x.lost(1, 5));
        asks(edge, x, 5, 5, 2, 5, 2);
        asks(edge, x, 4, 5, 0, 0, 3);
        asks(edge, x, 10, 5, 2, 5, 2);
        x.weeks(1);
        x.read(8, 0, false);
        edge.is("the first alone is LET", 2, x.best(10, 5, 2));
    }

    private static void fromTheClocksWeek(Edge edge) {
        edge.sentence(35, "whose ROOMS would have FILL 20 from the clock's WEEK on");
        SeamFire x = seam();
        x.rules(4, 1, 9);
        x.place(4, 1);
        x.place(2, 1);
        x.weeks(3);
        edge.is("HEAT at 3", 3, x.burns(0, 3, 1, 2));
        asks(edge, x, 9, 4, 3, 2, 1);
        asks(edge, x, 0, 4, 0, 0, 3);
        x.weeks(1);
        edge.is("they BURN at 4", 3, x.lost(0, 4));
        asks(edge, x, 9, 4, 0, 0, 3);
        asks(edge, x, 9, 34, 0, 0, 3);
        SeamFire y = seam();
        y.place(4, 1);
        y.place(2, 1);
        y.pour(4, 20);
        y.pour(2, 20);
        asks(edge, y, 0, 1, 0, 0, 3);
        asks(edge, y, 9, 1, 3, 2, 1);
        SeamFire z = seam();
        z.place(2, 1);
        z.cell(2, 1, 900);
        asks(edge, z, 9, 5, 0, 0, z.lost(0, 5));
    }

    private static void nothingIsChanged(Edge edge) {
        edge.sentence(35, "Nothing is changed");
        edge.asksAlone("best(99999, 20, 0)", o -> o.best(99999, 20, 0));
        edge.asksAlone("best(40, 9, 2)", o -> o.best(40, 9, 2));
        SeamFire x = seam();
        x.place(4, 1);
        x.place(2, 1);
        x.best(9, 5, 0);
        edge.is("fill(4)", 0, x.fill(4));
        edge.is("fill(2)", 0, x.fill(2));
        edge.is("lost(0, 5)", 3, x.lost(0, 5));
        edge.is("AIR in 0", 1, x.burns(0, 0, 4, 3));
    }

    private static void noneAndAllLost(Edge edge) {
        edge.sentence(35, "2 the greatest LOST: 0 .. 64");
        SeamFire x = Edge.drawn(900, "cco", "coo");
        x.state(0, 20);
        x.place(2, 0);
        asks(edge, x, 99, 19, 0, 0, 0);
        asks(edge, x, 99, 20, 0, 0, 1);
        SeamFire y = Promise11Lost.allOf64();
        Edge.until(y, 60);
        asks(edge, y, 99, 60, 0, 0, 64);
        asks(edge, y, 99, 90, 0, 0, 64);
    }

    /** Room 0 leads air to coal 1, which coal 2 heats. */
    private static void firstCell(Edge edge) {
        edge.sentence(35, "whose ROOMS would have FILL 20: those of the set alone");
        SeamFire x = Edge.drawn(900, "occ", "o..");
        x.rules(1, 1, 9);
        x.state(2, 0);
        x.hole(0);
        x.place(3, 1);
        asks(edge, x, 99, 5, 0, 0, 2);
        edge.is("fed(0, 5, 0) behind it", 1, x.fed(0, 5, 0));
        x.hole(0);
        edge.is("fed(0, 5, 0) with another HOLE there", 0, x.fed(0, 5, 0));
        x.place(0, 1);
        asks(edge, x, 99, 5, 2, 1, 1);
        edge.is("fed(0, 5, 1) behind it", 0, x.fed(0, 5, 1));
        edge.is("lost(0, 5) behind it", 2, x.lost(0, 5));
    }

    private static void asksAgain(Edge edge) {
        edge.sentence(35, "BEST for coins at a WEEK: as all is now");
        Edge.Calls[] calls = {o -> o.place(4, 5), o -> o.place(2, 5), o -> o.hole(3), o -> o.state(1, 0),
            o -> o.read(1, 0, false), o -> o.rules(2, 1, 9), o -> o.plug(0), o -> o.hole(2), o -> o.weeks(1),
            o -> o.trench(2, 2, 2, 1), o -> o.image(), o -> o.state(3, 1), o -> o.pour(4, 30), o -> o.weeks(1),
            o -> o.back(), o -> o.read(0, 0, false)};
        SeamFire x = seam();
        for (int n = 0; n <= calls.length; n++) {
            for (int coins : new int[] {10, 0, 5, 10}) {
                for (int what = 0; what < 3; what++) {
                    SeamFire once = seam();
                    for (int i = 0; i < n; i++) {
                        calls[i].on(once);
                    }
                    edge.is("best(" + coins + ", 9, " + what + ") behind " + n + " calls", once.best(coins, 9, what),
                            x.best(coins, 9, what));
                }
            }
            if (n < calls.length) {
                calls[n].on(x);
            }
        }
        SeamFire y = seam();
        asks(edge, y, 0, 5, 0, 0, 3);
        y.plug(0);
        asks(edge, y, 0, 5, 0, 0, 1);
        y.hole(3);
        asks(edge, y, 0, 5, 0, 0, 3);
        y.state(1, 0);
        asks(edge, y, 0, 0, 0, 0, 1);
        y.weeks(1);
        y.read(0, 0, false);
        asks(edge, y, 0, 5, 0, 0, 1);
        y.read(1, 0, false);
        edge.is("none is LET now", -1, y.best(0, 5, 0));
        y.back();
        edge.is("no STATE there", -1, y.best(0, 5, 0));
        SeamFire more = Edge.drawn(900, "cco.", "...c");
        more.rules(1, 1, 9);
        more.hole(2);
        more.state(7, 0);
        edge.is("by the one STATE", 1, more.best(0, 5, 2));
        more.state(0, 0);
        edge.is("by another one, too", 2, more.best(0, 5, 2));
        SeamFire z = seam();
        z.state(1, 0);
        z.weeks(1);
        z.read(1, 0, false);
        edge.is("nothing else was asked ahead of it", 3, z.best(0, 5, 2));
    }

    /** Coal 1 takes heat for two weeks, then cools; what it would be with walls goes on from there. */
    private static void heatThatIsThere(Edge edge) {
        edge.sentence(35, "from the clock's WEEK on: with the HEAT that is there");
        SeamFire x = Edge.drawn(900, "cco", "...");
        x.rules(3, 1, 9);
        x.state(0, 0);
        x.hole(2);
        x.place(2, 1);
        x.weeks(2);
        x.plug(0);
        x.weeks(1);
        x.hole(1);
        edge.is("HEAT in 3", 1, x.burns(0, 3, 1, 2));
        asks(edge, x, 9, 4, 0, 0, 1);
        asks(edge, x, 9, 5, 0, 0, 2);
        x.plug(1);
        x.weeks(1);
        edge.is("HEAT in 4", 0, x.burns(0, 4, 1, 2));
        x.hole(1);
        asks(edge, x, 9, 6, 0, 0, 1);
        asks(edge, x, 9, 7, 0, 0, 2);
        cooling(edge);
    }

    /** Coal 1 has heat 2 at the clock and no air; it cools to 1 and then comes to air from coal 0, burnt. */
    private static void cooling(Edge edge) {
        SeamFire x = Edge.seam(3, 2, 1, 900);
        x.cell(0, 1, 60);
        x.rules(3, 10, 9);
        x.state(0, 0);
        x.hole(0);
        x.hole(3);
        x.hole(4);
        x.hole(1);
        x.weeks(2);
        x.plug(3);
        for (int week = 2; week <= 20; week++) {
            edge.is("best(0, " + week + ", 2)", x.lost(0, week), x.best(0, week, 2));
        }
    }
}
