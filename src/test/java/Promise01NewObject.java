/** Promise 1: a new object. */
final class Promise01NewObject {
    private static final int[] TOLD = {Edge.MIN, -1, 0, 1, 2, 3, 4, 5, 6, 7, 8, 9, 10, Edge.MAX};
    private static final int[] TAKEN = {2, 2, 2, 2, 2, 3, 4, 5, 6, 7, 8, 8, 8, 8};

    private Promise01NewObject() {
    }

    static void tests(Edge edge) {
        none(edge);
        sizes(edge);
        numbersOfCells(edge);
        neighbours(edge);
        allRock(edge);
        clock(edge);
        nothingIsThere(edge);
        image(edge);
        lastCall(edge);
    }

    private static void none(Edge edge) {
        edge.sentence(1, "The constants: NONE = -1");
        edge.is("NONE", -1, SeamFire.NONE);
    }

    private static void sizes(Edge edge) {
        edge.sentence(1, "w by h CELLS (2 to 8 each; others: the nearest of these)");
        for (int i = 0; i < TOLD.length; i++) {
            for (int k = 0; k < TOLD.length; k++) {
                SeamFire x = new SeamFire(TOLD[i], TOLD[k]);
                String of = " of new SeamFire(" + TOLD[i] + ", " + TOLD[k] + ")";
                edge.is("about(1)" + of, TAKEN[i], x.about(1));
                edge.is("about(2)" + of, TAKEN[k], x.about(2));
                edge.is("fill of the last" + of, 0, x.fill(TAKEN[i] * TAKEN[k] - 1));
                edge.is("fill beyond it" + of, -1, x.fill(TAKEN[i] * TAKEN[k]));
                edge.is("fill(-1)" + of, -1, x.fill(-1));
            }
        }
    }

    /** A trench of the whole width fits beginning with x 0 alone, and one of the height with y 0. */
    private static void numbersOfCells(Edge edge) {
        edge.sentence(1, "y * w + x");
        for (int w = 2; w <= 8; w++) {
            for (int h = 2; h <= 8; h++) {
                for (int c = 0; c < w * h; c++) {
                    String of = " from " + c + " on in " + w + " by " + h;
                    edge.is("a row" + of, c % w == 0 ? 0 : -1, new SeamFire(w, h).trench(c, 0, w, 1));
                    edge.is("a column" + of, c / w == 0 ? 0 : -1, new SeamFire(w, h).trench(c, 2, h, 1));
                }
            }
        }
    }

    /** Each cell burns alone once; of those around it, over the seam's edges too, four at most take heat. */
    private static void neighbours(Edge edge) {
        edge.sentence(1, "NEIGHBOURS are beside one another in x or in y");
        for (int w = 2; w <= 8; w++) {
            for (int h = 2; h <= 8; h++) {
                for (int c = 0; c < w * h; c++) {
                    aroundOne(edge, w, h, c);
                }
            }
        }
    }

    private static void aroundOne(Edge edge, int w, int h, int c) {
        SeamFire x = Edge.seam(w, h, 1, 99);
        x.rules(20, 1, 0);
        x.state(c, 0);
        int[] steps = {1, -1, w, -w, w + 1, w - 1, 1 - w, -w - 1};
        for (int step : steps) {
            x.hole(c + step);
        }
        for (int step : steps) {
            int o = c + step;
            boolean inside = o >= 0 && o < w * h;
            boolean beside = inside && Math.abs(o % w - c % w) + Math.abs(o / w - c / w) == 1;
            edge.is("heat of " + o + " beside " + c + " in " + w + " by " + h,
                    inside ? beside ? 1 : 0 : -1, x.burns(0, 1, o, 2));
        }
    }

    private static void allRock(Edge edge) {
        edge.sentence(1, "all ROCK");
        for (int w = 2; w <= 8; w++) {
            SeamFire x = new SeamFire(w, 10 - w);
            for (int c = 0; c < w * (10 - w); c++) {
                edge.is("state(" + c + ", 0)", -1, x.state(c, 0));
                edge.is("pour(" + c + ", 1)", -1, x.pour(c, 1));
                edge.is("place(" + c + ", 1)", -1, x.place(c, 1));
                edge.is("fill(" + c + ")", 0, x.fill(c));
            }
        }
    }

    private static void clock(Edge edge) {
        edge.sentence(1, "WEEK 0");
        SeamFire x = new SeamFire(2, 2);
        edge.is("about(0)", 0, x.about(0));
        edge.yes("cell(0, 1, 5), which clock 0 alone takes", x.cell(0, 1, 5));
        edge.is("weeks(1)", 1, x.weeks(1));
    }

    private static void nothingIsThere(Edge edge) {
        edge.sentence(1, "A new object: nothing is there yet");
        for (int what = 3; what <= 13; what++) {
            edge.is("about(" + what + ")", 0, new SeamFire(2, 2).about(what));
        }
        World none = World.NEW;
        edge.refused("plug(0)", 0, x -> x.plug(0) ? 1 : 0, none);
        edge.refused("burns(0, 0, 0, 0)", -1, x -> x.burns(0, 0, 0, 0), none);
        edge.refused("lost(0, 0)", -1, x -> x.lost(0, 0), none);
        edge.refused("fed(0, 0, 0)", -1000, x -> x.fed(0, 0, 0), none);
        edge.refused("inTime(0, 0)", -1, x -> x.inTime(0, 0), none);
        edge.refused("inTime(0, -1)", -1, x -> x.inTime(0, -1), none);
        edge.refused("let(0, 0)", -1, x -> x.let(0, 0), none);
        edge.refused("let(-1, 0), none", 0, x -> x.let(-1, 0), none);
        edge.refused("span(0, 0, 0)", -1, x -> x.span(0, 0, 0), none);
        edge.refused("parts(0)", -1, x -> x.parts(0), none);
        edge.refused("gas(0, 0, true)", -1, x -> x.gas(0, 0, true), none);
        edge.refused("person(0, 0, 0)", -1, x -> x.person(0, 0, 0), none);
        edge.refused("hears(0, 0)", 0, x -> x.hears(0, 0) ? 1 : 0, none);
        edge.refused("offer(0, 0, 0)", 0, x -> x.offer(0, 0, 0) ? 1 : 0, none);
        edge.refused("gone(0)", -1, x -> x.gone(0), none);
        edge.refused("end(1)", -1, x -> x.end(1), none);
        edge.refused("fault(0)", -1, x -> x.fault(0), none);
        edge.refused("fault(1)", -1, x -> x.fault(1), none);
        edge.refused("force(0, 0, 0)", -1, x -> x.force(0, 0, 0), none);
        edge.refused("by(0, 0, 0)", -1, x -> x.by(0, 0, 0), none);
        edge.refused("whose(0)", -1, x -> x.whose(0), none);
        edge.refused("vote(0, 0), nobody", 0, x -> x.vote(0, 0), none);
        edge.refused("vote(0, 2), nobody", -1, x -> x.vote(0, 2), none);
        edge.refused("best(0, 0, 0)", -1, x -> x.best(0, 0, 0), none);
    }

    private static void image(Edge edge) {
        edge.sentence(1, "THE IMAGE is this");
        edge.is("back() at once", 0, new SeamFire(4, 3).back());
        edge.same("behind back()", Look.at(4, 3, x -> { }), Look.at(4, 3, x -> {
            World.seam(x);
            World.town(x);
            x.weeks(9);
            x.hole(3);
            x.back();
        }));
        SeamFire x = new SeamFire(4, 3);
        World.law(x);
        x.weeks(20);
        edge.is("back() from 20", 0, x.back());
        edge.is("its ACTS", 0, x.about(10));
        edge.is("its FORCES", 0, x.about(11));
    }

    private static void lastCall(Edge edge) {
        edge.sentence(1, "An object is used for at most 512 calls after it has been made");
        SeamFire x = Edge.seam(8, 8, 1, 999);
        for (int i = 64; i < 510; i++) {
            x.hears(0, 0);
        }
        edge.is("the 511th call, state(63, 0)", 0, x.state(63, 0));
        edge.is("the 512th call, burns(0, 99, 63, 1)", 999 - 5 * 99, x.burns(0, 99, 63, 1));
    }
}
