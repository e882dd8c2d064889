/** Promise 24: gone. */
final class Promise24Gone {
    private Promise24Gone() {
    }

    static void tests(Edge edge) {
        people(edge);
        weeks(edge);
        once(edge);
        asksAlone(edge);
    }

    private static void people(Edge edge) {
        edge.sentence(24, "NONE: it is there, and for others");
        SeamFire x = new SeamFire(2, 2);
        edge.is("gone(0) of nobody", -1, x.gone(0));
        x.house(0, 1, 1);
        x.person(0, 0, 0);
        edge.is("gone(0), it is there", -1, x.gone(0));
        x.offer(0, 0, 0);
        x.weeks(1);
        edge.is("gone(0)", 0, x.gone(0));
        edge.is("gone(1) of one", -1, x.gone(1));
        for (int person : new int[] {-1, 60, Edge.MIN, Edge.MAX}) {
            edge.refusedAlways("gone(" + person + ")", -1, o -> o.gone(person));
        }
        edge.refused("gone(7)", -1, o -> o.gone(7), World.BEGUN, World.LATER, World.READ, World.ENDED);
    }

    private static void weeks(Edge edge) {
        edge.sentence(24, "The WEEK in which a person went: GONE ones have the WEEK");
        for (int week : new int[] {0, 1, 19, 20, 98, 99}) {
            SeamFire x = new SeamFire(2, 2);
            x.house(0, 1, 1);
            x.person(0, 0, 0);
            Edge.until(x, week);
            x.offer(0, 0, 99);
            edge.is("ahead of " + week, -1, x.gone(0));
            x.weeks(1);
            edge.is("in " + week, week, x.gone(0));
            Edge.until(x, 100);
            edge.is("at 100", week, x.gone(0));
        }
    }

    private static void once(Edge edge) {
        edge.sentence(24, "The WEEK in which a person went: who is there goes");
        SeamFire x = new SeamFire(2, 2);
        x.house(0, 1, 1);
        x.person(0, 0, 0);
        x.offer(0, 0, 50);
        x.image();
        x.weeks(9);
        edge.is("the first WEEK of nine", 0, x.gone(0));
        edge.is("counted once", 1, x.about(9));
        x.back();
        edge.is("back it is there", -1, x.gone(0));
        edge.is("none went", 0, x.about(9));
    }

    private static void asksAlone(Edge edge) {
        edge.sentence(24, "Nothing beyond the answers and state changes described: it asks alone");
        edge.asksAlone("gone(4)", o -> o.gone(4));
    }
}
