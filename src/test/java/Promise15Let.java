/** Promise 15: let. */
final class Promise15Let {
    private Promise15Let() {
    }

    static void tests(Edge edge) {
        numbers(edge);
        known(edge);
        howMany(edge);
        inKOrAhead(edge);
        allReadings(edge);
        asksAlone(edge);
    }

    private static void numbers(Edge edge) {
        edge.sentence(15, "Whether a STATE is LET (1, 0); how many are (state NONE). NONE for others");
        SeamFire x = Edge.seam(2, 2, 1, 900);
        edge.is("let(-1, 0) of no STATE", 0, x.let(-1, 0));
        edge.is("let(0, 0) of no STATE", -1, x.let(0, 0));
        x.state(0, 0);
        edge.is("let(0, 0)", 1, x.let(0, 0));
        edge.is("let(1, 0) of one STATE", -1, x.let(1, 0));
        edge.is("let(-2, 0)", -1, x.let(-2, 0));
        for (int s : new int[] {-2, 8, Edge.MIN, Edge.MAX}) {
            edge.refusedAlways("let(" + s + ", 0)", -1, o -> o.let(s, 0));
        }
        edge.refused("let(3, 0)", -1, o -> o.let(3, 0), World.BEGUN, World.READ);
        edge.refused("let(4, 0)", -1, o -> o.let(4, 0), World.LATER, World.ENDED);
    }

    private static void known(Edge edge) {
        edge.sentence(15, "LET as KNOWN in k (0 .. 100)");
        SeamFire x = Edge.seam(2, 2, 1, 900);
        x.state(0, 0);
        for (int k : new int[] {0, 1, 99, 100}) {
            edge.is("let(0, " + k + ")", 1, x.let(0, k));
            edge.is("let(-1, " + k + ")", 1, x.let(-1, k));
        }
        for (int k : new int[] {-1, 101, Edge.MIN, Edge.MAX}) {
            edge.refusedAlways("let(0, " + k + ")", -1, o -> o.let(0, k));
            edge.refusedAlways("let(-1, " + k + ")", -1, o -> o.let(-1, k));
        }
    }

    private static void howMany(Edge edge) {
        edge.sentence(15, "how many are: 0 .. 8");
        SeamFire x = Edge.seam(4, 2, 1, 900);
        for (int s = 0; s < 8; s++) {
            edge.is("let(-1, 0)", s, x.let(-1, 0));
            x.state(s, 0);
        }
        edge.is("all eight", 8, x.let(-1, 0));
        for (int c = 7; c > 0; c--) {
            x.read(c, 0, false);
            edge.is("one less", c, x.let(-1, 0));
            edge.is("let(" + c + ", 0)", 0, x.let(c, 0));
            edge.is("let(0, 0)", 1, x.let(0, 0));
        }
        x.read(0, 0, false);
        edge.is("none", 0, x.let(-1, 0));
        x.state(0, 1);
        edge.is("there are 8 still", 0, x.let(-1, 0));
    }

    private static void inKOrAhead(Edge edge) {
        edge.sentence(15, "all READINGS TOLD in k or ahead are so; TOLD on the clock's WEEK");
        for (int clock : new int[] {0, 1, 7, 99, 100}) {
            SeamFire x = Edge.seam(2, 2, 1, 999);
            x.state(0, 0);
            x.state(3, 0);
            Edge.until(x, clock);
            x.read(0, 0, false);
            edge.is("known ahead of " + clock, clock == 0 ? -1 : 2, x.let(-1, clock - 1));
            edge.is("known in " + clock, 1, x.let(-1, clock));
            edge.is("known in 100", 1, x.let(-1, 100));
            edge.is("let(0, " + clock + ")", 0, x.let(0, clock));
            edge.is("let(1, " + clock + ")", 1, x.let(1, clock));
        }
        SeamFire y = Edge.seam(2, 2, 1, 999);
        y.state(0, 0);
        y.weeks(20);
        y.read(0, 0, false);
        edge.is("TOLD in 20, of WEEK 0: known in 0", 1, y.let(0, 0));
        edge.is("known in 19", 1, y.let(0, 19));
        edge.is("known in 20", 0, y.let(0, 20));
    }

    private static void allReadings(Edge edge) {
        edge.sentence(15, "a STATE by which all READINGS are so");
        SeamFire x = Edge.seam(2, 2, 1, 999);
        x.state(0, 0);
        x.read(0, 0, true);
        x.read(1, 0, false);
        edge.is("both are so", 1, x.let(0, 0));
        x.read(1, 0, true);
        edge.is("two that gainsay one another", 0, x.let(-1, 0));
        SeamFire y = Edge.seam(2, 2, 1, 999);
        y.read(0, 0, false);
        edge.is("a STATE told behind the READING", 0, y.state(0, 0));
        edge.is("isn't LET", 0, y.let(0, 0));
        y.state(0, 1);
        edge.is("one that is", 1, y.let(1, 0));
        SeamFire z = Edge.seam(2, 2, 1, 999);
        z.state(0, 0);
        z.read(0, 0, true);
        edge.is("LET", 1, z.let(0, 0));
        z.trench(0, 0, 1, 1);
        edge.is("CUT since, it didn't BURN at the beginning", 0, z.let(0, 0));
    }

    private static void asksAlone(Edge edge) {
        edge.sentence(15, "Nothing beyond the answers and state changes described: it asks alone");
        edge.asksAlone("let(1, 3)", o -> o.let(1, 3));
        edge.asksAlone("let(-1, 100)", o -> o.let(-1, 100));
    }
}
