/** Promise 10: burns. The terms of a WEEK that goes by are held here too. */
final class Promise10Burns {
    private Promise10Burns() {
    }

    static void tests(Edge edge) {
        numbers(edge);
        atFirst(edge);
        lights(edge);
        cuts(edge);
        open(edge);
        holesOfAnyCell(edge);
        onlyOpenOnesLead(edge);
        draw(edge);
        besideOpenOnes(edge);
        burnsDown(edge);
        noneLeft(edge);
        neverEnds(edge);
        heat(edge);
        allAtOnce(edge);
        cools(edge);
        coolEachForItself(edge);
        heatStays(edge);
        lastWeek(edge);
        anyOrderOfWeeks(edge);
        askedInBetween(edge);
        asksAlone(edge);
    }

    private static void numbers(Edge edge) {
        edge.sentence(10, "(what 0), its tons (1), HEAT (2), AIR in that WEEK (3: 1, 0). NONE for others");
        SeamFire x = Edge.seam(2, 2, 1, 70);
        x.state(3, 1);
        x.hole(3);
        edge.is("burns(0, 0, 0, 0)", 0, x.burns(0, 0, 0, 0));
        edge.is("burns(0, 99, 3, 0)", 2, x.burns(0, 99, 3, 0));
        edge.is("burns(0, 1, 3, 1)", 70, x.burns(0, 1, 3, 1));
        edge.is("burns(0, 1, 3, 2)", 0, x.burns(0, 1, 3, 2));
        edge.is("burns(0, 1, 3, 3)", 1, x.burns(0, 1, 3, 3));
        for (int v : new int[] {-1, Edge.MIN, Edge.MAX}) {
            edge.refusedAlways("burns(" + v + ", 0, 0, 0)", -1, o -> o.burns(v, 0, 0, 0));
            edge.refusedAlways("burns(0, " + v + ", 0, 0)", -1, o -> o.burns(0, v, 0, 0));
            edge.refusedAlways("burns(0, 0, " + v + ", 0)", -1, o -> o.burns(0, 0, v, 0));
            edge.refusedAlways("burns(0, 0, 0, " + v + ")", -1, o -> o.burns(0, 0, 0, v));
        }
        for (int what = 0; what < 4; what++) {
            int of = what;
            edge.refused("burns(3, 0, 0, " + what + ")", -1, o -> o.burns(3, 0, 0, of), World.BEGUN, World.READ);
            edge.refused("burns(4, 0, 0, " + what + ")", -1, o -> o.burns(4, 0, 0, of), World.LATER, World.ENDED);
            edge.refusedAlways("burns(8, 0, 0, " + what + ")", -1, o -> o.burns(8, 0, 0, of));
            edge.refusedAlways("burns(0, 100, 0, " + what + ")", -1, o -> o.burns(0, 100, 0, of));
            edge.refusedAlways("burns(0, 0, 12, " + what + ")", -1, o -> o.burns(0, 0, 12, of));
        }
        edge.refusedAlways("burns(0, 0, 0, 4)", -1, o -> o.burns(0, 0, 0, 4));
        edge.is("burns(1, 0, 0, 0) of one STATE", -1, x.burns(1, 0, 0, 0));
        edge.is("burns(0, 0, 4, 0) of 2 by 2", -1, x.burns(0, 0, 4, 0));
    }

    private static void atFirst(Edge edge) {
        edge.sentence(10, "at first no CELL BURNS or is BURNT, HEAT is 0");
        SeamFire x = Edge.drawn(70, "cpo", ".wc");
        x.state(5, 1);
        for (int c = 0; c < 6; c++) {
            edge.is("burns(0, 0, " + c + ", 0)", 0, x.burns(0, 0, c, 0));
            edge.is("burns(0, 0, " + c + ", 1)", c == 0 || c == 1 || c == 5 ? 70 : 0, x.burns(0, 0, c, 1));
            edge.is("burns(0, 0, " + c + ", 2)", 0, x.burns(0, 0, c, 2));
            edge.is("burns(0, 0, " + c + ", 3)", 0, x.burns(0, 0, c, 3));
        }
    }

    private static void lights(Edge edge) {
        edge.sentence(10, "its CELL, if m is its WEEK, BURNS");
        for (int week : new int[] {0, 1, 2, 50, 98, 99}) {
            SeamFire x = Edge.seam(2, 2, 2, 999);
            x.state(2, week);
            for (int m : new int[] {0, week - 1, week, week + 1, 99}) {
                boolean isWeek = m >= 0 && m < 100;
                edge.is("in " + m + " by a STATE of " + week, isWeek ? m >= week ? 1 : 0 : -1, x.burns(0, m, 2, 0));
            }
            edge.is("no other does", 0, x.burns(0, 99, 1, 0));
        }
    }

    private static void cuts(Edge edge) {
        edge.sentence(10, "CELLS that are CUT in m have no tons, aren't ROOMS, don't BURN and aren't BURNT from then on");
        SeamFire x = Edge.drawn(20, "oc", "oc", ".c");
        x.rules(9, 10, 6);
        x.hole(2);
        x.hole(1);
        x.state(1, 0);
        x.state(3, 3);
        x.weeks(3);
        edge.is("BURNT ahead of it", 2, x.burns(0, 3, 1, 0));
        edge.is("it lets AIR through", 1, x.burns(0, 3, 0, 3));
        x.trench(1, 2, 2, 1);
        edge.is("BURNT in 2", 2, x.burns(0, 2, 1, 0));
        edge.is("not in 3", 0, x.burns(0, 3, 1, 0));
        edge.is("nor in 99", 0, x.burns(0, 99, 1, 0));
        edge.is("it BURNS in 3", 1, x.burns(1, 3, 3, 0));
        edge.is("not in 4", 0, x.burns(1, 4, 3, 0));
        edge.is("tons in 3", 20, x.burns(1, 3, 3, 1));
        edge.is("tons in 4", 0, x.burns(1, 4, 3, 1));
        edge.is("not CUT", 20, x.burns(1, 99, 5, 1));
        SeamFire y = Edge.drawn(20, "ooc", "...");
        y.hole(0);
        y.state(2, 99);
        y.weeks(1);
        y.trench(1, 0, 1, 1);
        edge.is("AIR over a ROOM in 0", 1, y.burns(0, 0, 2, 3));
        edge.is("none over it, CUT in 1", 0, y.burns(0, 1, 2, 3));
        edge.is("it has AIR itself, beside an OPEN one", 1, y.burns(0, 1, 1, 3));
    }

    private static void open(Edge edge) {
        edge.sentence(10, "an OPEN CELL is a ROOM with FILL below 20, or one that is BURNT");
        for (int fill : new int[] {0, 1, 19, 20}) {
            SeamFire x = Edge.drawn(20, "ooc", "...");
            x.hole(0);
            x.state(2, 99);
            if (fill > 0) {
                x.pour(1, fill);
            }
            edge.is("AIR over FILL " + fill, fill < 20 ? 1 : 0, x.burns(0, 1, 2, 3));
            edge.is("AIR of FILL " + fill, 1, x.burns(0, 1, 1, 3));
        }
        SeamFire x = Edge.drawn(10, "ccc", "...");
        x.hole(0);
        x.rules(9, 10, 6);
        x.state(0, 4);
        edge.is("COAL leads no AIR", 0, x.burns(0, 3, 1, 3));
        edge.is("nor does it that BURNS", 0, x.burns(0, 4, 1, 3));
        edge.is("BURNT in 5", 2, x.burns(0, 5, 0, 0));
        edge.is("then it does", 1, x.burns(0, 5, 1, 3));
        edge.is("not to the next but one", 0, x.burns(0, 5, 2, 3));
        for (String other : new String[] {".", "w", "p"}) {
            SeamFire y = Edge.drawn(10, "o" + other + "c", "...");
            y.hole(0);
            y.state(2, 0);
            edge.is("AIR of " + other, 1, y.burns(0, 0, 1, 3));
            edge.is("AIR over " + other, 0, y.burns(0, 0, 2, 3));
        }
    }

    private static void holesOfAnyCell(Edge edge) {
        edge.sentence(10, "REACHED by 0 steps: CELLS with a HOLE that is open in m");
        SeamFire x = Edge.drawn(900, ".o", "cw");
        x.state(2, 0);
        for (int c = 0; c < 4; c++) {
            x.hole(c);
        }
        x.rules(9, 1, 0);
        for (int c = 0; c < 4; c++) {
            edge.is("AIR of " + c + " by DRAW 0", 1, x.burns(0, 0, c, 3));
        }
        x.weeks(2);
        for (int c = 0; c < 4; c++) {
            x.plug(c);
            edge.is("AIR of " + c + " ahead of the plugging", 1, x.burns(0, 1, c, 3));
            edge.is("AIR of " + c + " behind it", 0, x.burns(0, 2, c, 3));
        }
    }

    private static void onlyOpenOnesLead(Edge edge) {
        edge.sentence(10, "by s + 1: OPEN NEIGHBOURS of those REACHED by s, if those are OPEN or s is 0");
        for (String own : new String[] {".", "c", "w", "o"}) {
            SeamFire x = Edge.drawn(900, own + "oc", "..p");
            x.state(5, 99);
            x.hole(0);
            x.rules(9, 1, 2);
            edge.is("from a HOLE in " + own + " to an OPEN NEIGHBOUR", 1, x.burns(0, 0, 1, 3));
            edge.is("and beside that one", 1, x.burns(0, 0, 2, 3));
            x.rules(9, 1, 1);
            edge.is("by DRAW 1 to the NEIGHBOUR", 1, x.burns(0, 0, 1, 3));
            edge.is("not beside it", 0, x.burns(0, 0, 2, 3));
            edge.is("beside " + own + " itself", own.equals("o") ? 1 : 0, x.burns(0, 0, 3, 3));
        }
    }

    private static void draw(Edge edge) {
        edge.sentence(10, "the fewest count; up to DRAW");
        SeamFire x = Edge.drawn(900, "oooooooo", "oooooooo", "cccccccc");
        x.state(16, 99);
        x.hole(0);
        for (int draw = 0; draw <= 9; draw++) {
            x.rules(9, 1, draw);
            for (int c = 0; c < 16; c++) {
                edge.is("AIR of " + c + " by DRAW " + draw, c % 8 + c / 8 <= draw ? 1 : 0, x.burns(0, 0, c, 3));
            }
        }
        x.rules(9, 1, 4);
        x.hole(7);
        edge.is("by the nearer HOLE", 1, x.burns(0, 0, 5, 3));
        edge.is("by both", 1, x.burns(0, 0, 3, 3));
    }

    private static void besideOpenOnes(Edge edge) {
        edge.sentence(10, "or it isn't OPEN and has a NEIGHBOUR that is OPEN and REACHED by less than DRAW");
        SeamFire x = Edge.drawn(900, "oooooooo", "ccwwpp..");
        x.state(8, 99);
        x.hole(0);
        for (int draw = 0; draw <= 8; draw++) {
            x.rules(9, 1, draw);
            for (int c = 0; c < 8; c++) {
                edge.is("AIR of " + (8 + c) + " by DRAW " + draw, c < draw ? 1 : 0, x.burns(0, 0, 8 + c, 3));
            }
        }
        x.rules(9, 1, 30);
        x.pour(4, 20);
        edge.is("a full ROOM beside an OPEN one", 1, x.burns(0, 1, 4, 3));
        edge.is("beside a full ROOM", 0, x.burns(0, 1, 12, 3));
    }

    private static void burnsDown(Edge edge) {
        edge.sentence(10, "a CELL that BURNS loses RATE tons with AIR, RATE / 2, cut, without");
        SeamFire x = Edge.drawn(900, "c.", ".c");
        x.rules(9, 7, 1);
        x.state(0, 2);
        x.state(3, 2);
        x.hole(3);
        int[] withAir = {900, 900, 900, 893, 886, 879};
        int[] without = {900, 900, 900, 897, 894, 891};
        for (int m = 0; m < 6; m++) {
            edge.is("tons with AIR in " + m, withAir[m], x.burns(1, m, 3, 1));
            edge.is("tons without in " + m, without[m], x.burns(0, m, 0, 1));
        }
    }

    private static void noneLeft(Edge edge) {
        edge.sentence(10, "with none left it is BURNT and BURNS no more");
        int[][] rows = {{1, 1}, {9, 1}, {10, 1}, {11, 2}, {20, 2}, {21, 3}, {999, 100}};
        for (int[] row : rows) {
            SeamFire x = Edge.drawn(row[0], "c.", "..");
            x.rules(9, 10, 1);
            x.state(0, 0);
            x.hole(0);
            int last = row[1] - 1;
            edge.is(row[0] + " tons BURN in " + last, 1, x.burns(0, last, 0, 0));
            if (row[1] < 100) {
                edge.is(row[0] + " tons are BURNT in " + row[1], 2, x.burns(0, row[1], 0, 0));
                edge.is("none is left", 0, x.burns(0, row[1], 0, 1));
                edge.is("BURNT in 99", 2, x.burns(0, 99, 0, 0));
                edge.is("none in 99", 0, x.burns(0, 99, 0, 1));
            }
        }
    }

    private static void neverEnds(Edge edge) {
        edge.sentence(10, "RATE / 2, cut: by RATE 1 nothing is lost without AIR");
        SeamFire x = Edge.drawn(1, "c.", "..");
        x.rules(9, 1, 1);
        x.state(0, 0);
        edge.is("1 ton BURNS in 99", 1, x.burns(0, 99, 0, 0));
        edge.is("it is left", 1, x.burns(0, 99, 0, 1));
        x.rules(9, 2, 1);
        edge.is("by RATE 2 it is BURNT in 1", 2, x.burns(0, 1, 0, 0));
    }

    private static void heat(Edge edge) {
        edge.sentence(10, "with AIR HEAT grows by how many NEIGHBOURS BURN (at the beginning); at CATCH or above it BURNS");
        SeamFire x = Edge.seam(3, 3, 1, 900);
        x.rules(2, 1, 0);
        x.state(4, 0);
        int[] around = {1, 3, 5, 7};
        for (int c : around) {
            x.hole(c);
        }
        edge.is("HEAT by one", 1, x.burns(0, 1, 1, 2));
        edge.is("one below CATCH", 0, x.burns(0, 1, 1, 0));
        edge.is("at CATCH", 1, x.burns(0, 2, 1, 0));
        x.weeks(2);
        x.hole(0);
        edge.is("HEAT by two in one WEEK", 2, x.burns(0, 3, 0, 2));
        edge.is("at CATCH at once", 1, x.burns(0, 3, 0, 0));
        four(edge);
    }

    /** Cells 1, 3, 5, 7 burn when cell 4 comes to its air. */
    private static void four(Edge edge) {
        edge.sentence(10, "HEAT grows by how many NEIGHBOURS BURN: four at most, above CATCH too");
        SeamFire x = Edge.seam(3, 3, 1, 900);
        x.rules(3, 1, 0);
        x.state(0, 0);
        for (int c : new int[] {1, 2, 3, 5, 6, 7, 8}) {
            x.hole(c);
        }
        Edge.until(x, 20);
        x.hole(4);
        edge.is("HEAT of 4 in 20", 0, x.burns(0, 20, 4, 2));
        edge.is("HEAT of 4 in 21", 4, x.burns(0, 21, 4, 2));
        edge.is("it BURNS in 21", 1, x.burns(0, 21, 4, 0));
        edge.is("not in 20", 0, x.burns(0, 20, 4, 0));
    }

    private static void allAtOnce(Edge edge) {
        edge.sentence(10, "(3) all at once: NEIGHBOURS BURN (at the beginning), from the next WEEK's beginning on");
        SeamFire x = Edge.drawn(900, "cccc", "....");
        x.rules(1, 1, 0);
        x.state(0, 0);
        x.hole(1);
        x.hole(2);
        x.hole(3);
        for (int m = 0; m < 5; m++) {
            for (int c = 0; c < 4; c++) {
                edge.is("cell " + c + " in " + m, c <= m ? 1 : 0, x.burns(0, m, c, 0));
                edge.is("HEAT of " + c + " in " + m, c > 0 && c <= m ? 1 : 0, x.burns(0, m, c, 2));
            }
        }
        SeamFire y = Edge.drawn(10, "cc", "..");
        y.rules(1, 10, 0);
        y.state(1, 0);
        y.hole(0);
        y.hole(1);
        edge.is("in its last WEEK it BURNS at the beginning", 1, y.burns(0, 1, 0, 0));
        SeamFire z = Edge.drawn(10, "cc", "..");
        z.rules(2, 10, 0);
        z.state(1, 0);
        z.hole(0);
        z.hole(1);
        edge.is("BURNT ones give no HEAT", 1, z.burns(0, 9, 0, 2));
    }

    private static void cools(Edge edge) {
        edge.sentence(10, "without AIR HEAT is one less (0 at least)");
        SeamFire x = Edge.drawn(900, "cc", "..");
        x.rules(20, 1, 0);
        x.state(0, 0);
        x.hole(1);
        x.weeks(3);
        x.plug(0);
        int[] want = {0, 1, 2, 3, 2, 1, 0, 0, 0};
        for (int m = 0; m < want.length; m++) {
            edge.is("HEAT in " + m, want[m], x.burns(0, m, 1, 2));
        }
        edge.is("HEAT in 99", 0, x.burns(0, 99, 1, 2));
        x.weeks(3);
        x.hole(1);
        edge.is("it grows again", 1, x.burns(0, 7, 1, 2));
        SeamFire y = Edge.drawn(900, "cc", "..");
        y.rules(20, 1, 0);
        y.state(0, 50);
        y.hole(1);
        edge.is("with AIR, but no fire, it stays", 0, y.burns(0, 50, 1, 2));
    }

    /** Cells 0, 2, 4 beside cell 1 come to other heats until air ends for all of them. */
    private static void coolEachForItself(Edge edge) {
        edge.sentence(10, "without AIR HEAT is one less (0 at least): of each CELL for itself");
        SeamFire x = Edge.drawn(900, "ccc", ".c.");
        x.rules(20, 1, 0);
        x.state(1, 0);
        x.hole(4);
        x.weeks(2);
        x.hole(0);
        x.weeks(1);
        x.hole(2);
        x.weeks(3);
        x.plug(0);
        x.plug(1);
        x.plug(2);
        int[] cells = {0, 2, 4};
        int[] at = {4, 3, 6};
        for (int i = 0; i < 3; i++) {
            for (int m = 6; m <= 14; m++) {
                edge.is("HEAT of " + cells[i] + " in " + m, Math.max(0, at[i] - (m - 6)), x.burns(0, m, cells[i], 2));
            }
        }
    }

    private static void heatStays(Edge edge) {
        edge.sentence(10, "A CELL with tons that doesn't BURN: HEAT of others stays as it was");
        SeamFire x = Edge.drawn(900, "cc", "..");
        x.rules(2, 1, 0);
        x.state(0, 0);
        x.hole(1);
        x.weeks(5);
        x.plug(0);
        edge.is("HEAT of one that BURNS", 2, x.burns(0, 2, 1, 2));
        edge.is("without AIR too", 2, x.burns(0, 20, 1, 2));
        edge.is("the STATE's own has none", 0, x.burns(0, 20, 0, 2));
        SeamFire y = Edge.drawn(900, "co", "..");
        y.rules(2, 1, 9);
        y.state(0, 0);
        y.hole(1);
        edge.is("a ROOM takes none", 0, y.burns(0, 20, 1, 2));
        SeamFire z = Edge.drawn(900, "cc", "..");
        z.rules(9, 1, 0);
        z.state(0, 0);
        z.hole(1);
        z.weeks(3);
        z.trench(1, 0, 1, 1);
        edge.is("one that is CUT in 3", 3, z.burns(0, 3, 1, 2));
        edge.is("keeps it", 3, z.burns(0, 9, 1, 2));
    }

    private static void lastWeek(Edge edge) {
        edge.sentence(10, "at the beginning of a WEEK: the last is 99");
        SeamFire x = Edge.seam(8, 8, 1, 999);
        x.rules(20, 10, 0);
        x.state(63, 0);
        x.hole(63);
        x.hole(62);
        edge.is("tons in 99", 9, x.burns(0, 99, 63, 1));
        edge.is("BURNS in 99", 1, x.burns(0, 99, 63, 0));
        edge.is("HEAT in 99", 20, x.burns(0, 99, 62, 2));
        edge.is("AIR in 99", 1, x.burns(0, 99, 63, 3));
        Edge.until(x, 100);
        edge.is("at clock 100", 9, x.burns(0, 99, 63, 1));
        edge.is("WEEK 100", -1, x.burns(0, 100, 63, 1));
    }

    /** What is asked of a later week first changes nothing of an earlier one. */
    private static void anyOrderOfWeeks(Edge edge) {
        edge.sentence(10, "at the beginning of a WEEK: in whatever order it is asked");
        int[] weeks = {99, 8, 9, 3, 1, 0, 99};
        for (int c = 0; c < 12; c++) {
            SeamFire x = new SeamFire(4, 3);
            World.LATER.make(x);
            for (int week : weeks) {
                for (int s = 0; s < 4; s++) {
                    for (int what = 0; what < 4; what++) {
                        SeamFire once = new SeamFire(4, 3);
                        World.LATER.make(once);
                        edge.is("burns(" + s + ", " + week + ", " + c + ", " + what + ")",
                                once.burns(s, week, c, what), x.burns(s, week, c, what));
                    }
                }
            }
        }
        SeamFire y = Edge.drawn(900, "cc", "..");
        y.rules(20, 1, 0);
        y.state(1, 0);
        y.hole(0);
        edge.is("HEAT of CELL 0 in 5", 5, y.burns(0, 5, 0, 2));
        edge.is("HEAT of CELL 0 in 2", 2, y.burns(0, 2, 0, 2));
        edge.is("HEAT of CELL 0 in 0", 0, y.burns(0, 0, 0, 2));
    }

    /** All is asked behind each call, and at the end it is as if nothing had been. */
    private static void askedInBetween(Edge edge) {
        edge.sentence(10, "how all is AT THE BEGINNING of m: whatever was asked ahead of it");
        Edge.Calls[] calls = {o -> o.cell(2, 2, 33), o -> o.cell(2, 3, 0), o -> o.rules(1, 7, 3), o -> o.hole(10),
            o -> o.plug(3), o -> o.hole(4), o -> o.pour(6, 12), o -> o.trench(6, 0, 1, 1), o -> o.state(4, 3),
            o -> o.read(0, 0, true), o -> o.image(), o -> o.weeks(1), o -> o.hole(7), o -> o.plug(0),
            o -> o.pour(2, 20), o -> o.weeks(2), o -> o.rules(2, 5, 6), o -> o.trench(4, 2, 2, 1),
            o -> o.read(10, 3, true), o -> o.hole(0), o -> o.weeks(1), o -> o.plug(4), o -> o.place(2, 3),
            o -> o.house(4, 5, 5)};
        edge.same("asked in between", Look.at(4, 3, x -> {
            World.seam(x);
            World.town(x);
            for (Edge.Calls call : calls) {
                call.on(x);
            }
        }), Look.at(4, 3, x -> {
            World.seam(x);
            World.town(x);
            for (Edge.Calls call : calls) {
                askAll(x);
                call.on(x);
            }
        }));
        edge.same("asked in between and gone back", Look.at(4, 3, x -> {
            World.seam(x);
            x.image();
        }), Look.at(4, 3, x -> {
            World.seam(x);
            x.image();
            for (Edge.Calls call : calls) {
                if (call != calls[10]) {
                    askAll(x);
                    call.on(x);
                }
            }
            x.back();
        }));
    }

    private static void askAll(SeamFire x) {
        x.lost(0, 99);
        x.burns(1, 20, 0, 1);
        x.fed(2, 30, 0);
        x.best(99999, x.about(0) + 5, 0);
        x.gas(0, 40, true);
        x.inTime(0, -1);
        x.parts(12);
    }

    private static void asksAlone(Edge edge) {
        edge.sentence(10, "Nothing beyond the answers and state changes described: it asks alone");
        edge.asksAlone("burns(0, 9, 0, 0)", o -> o.burns(0, 9, 0, 0));
        edge.asksAlone("burns(1, 99, 10, 1)", o -> o.burns(1, 99, 10, 1));
        edge.asksAlone("burns(2, 3, 5, 2)", o -> o.burns(2, 3, 5, 2));
        edge.asksAlone("burns(0, 50, 0, 3)", o -> o.burns(0, 50, 0, 3));
    }
}
