/** Promise 38: about. */
final class Promise38About {
    private Promise38About() {
    }

    static void tests(Edge edge) {
        bounds(edge);
        none(edge);
        each(edge);
        full(edge);
        changesNothing(edge);
    }

    private static void bounds(Edge edge) {
        edge.sentence(38, "0 the clock .. 13 bytes of the tape. NONE for others");
        for (int what : new int[] {-1, 14, 15, Edge.MIN, Edge.MAX}) {
            edge.refusedAlways("about(" + what + ")", -1, o -> o.about(what));
        }
    }

    private static void none(Edge edge) {
        edge.sentence(38, "about: when nothing is there yet");
        SeamFire x = new SeamFire(3, 7);
        int[] want = {0, 3, 7, 0, 0, 0, 0, 0, 0, 0, 0, 0, 0, 0};
        edge.are("about", want, all(x));
    }

    private static int[] all(SeamFire x) {
        int[] row = new int[14];
        for (int what = 0; what < 14; what++) {
            row[what] = x.about(what);
        }
        return row;
    }

    /** One call at a time, and one number with it. */
    private static void each(Edge edge) {
        edge.sentence(38, "3 HOLES, 4 TRENCHES, 5 STATES, 6 READINGS, 7 HOUSES, 8 people, 9 those who went, "
                + "10 ACTS, 11 FORCES, 12 PLACES, 13 bytes of the tape");
        SeamFire x = Edge.drawn(50, "oc.", "...");
        int[] want = all(x);
        Edge.Calls[] calls = {o -> o.hole(0), o -> o.trench(0, 0, 1, 1), o -> o.state(1, 0), o -> o.read(0, 0, true),
            o -> o.house(0, 1, 1), o -> o.person(0, 1, 0), o -> {
                o.offer(0, 0, 99);
                o.weeks(1);
            }, SeamFire::act, o -> o.force(0, 1, 1), o -> o.place(0, 1), o -> o.feed(0, 0, 0, 0, 0)};
        for (int i = 0; i < calls.length; i++) {
            calls[i].on(x);
            want[3 + i] += i == 10 ? 20 : 1;
            want[0] += i == 6 ? 1 : 0;
            edge.are("about behind call " + i, want, all(x));
        }
        x.hole(6);
        x.plug(0);
        x.trench(6, 0, 1, 1);
        x.state(0, 0);
        x.read(6, 0, true);
        x.house(6, 1, 1);
        x.person(1, 1, 0);
        x.force(1, 1, 1);
        x.place(1, 1);
        x.end(21);
        edge.are("about behind refused calls", want, all(x));
    }

    private static void full(Edge edge) {
        edge.sentence(38, "about: when all is full");
        SeamFire x = new SeamFire(4, 3);
        World.FULL.make(x);
        edge.are("about", new int[] {2, 4, 3, 20, 10, 8, 2, 20, 60, x.about(9), 10, 30, 6, 300}, all(x));
        SeamFire y = new SeamFire(4, 3);
        World.READ.make(y);
        edge.is("READINGS", 200, y.about(6));
        SeamFire z = new SeamFire(4, 3);
        World.ENDED.make(z);
        edge.is("the clock", 100, z.about(0));
    }

    private static void changesNothing(Edge edge) {
        edge.sentence(38, "about: it asks alone");
        edge.asksAlone("about(0) .. about(13)", o -> all(o)[0]);
    }
}
