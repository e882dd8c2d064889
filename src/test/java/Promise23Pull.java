/** Promise 23: pull. */
final class Promise23Pull {
    private Promise23Pull() {
    }

    static void tests(Edge edge) {
        bounds(edge);
        atFirst(edge);
        latest(edge);
    }

    /** The second of its kin goes for nothing. */
    private static SeamFire twoOfAKin(int ask) {
        SeamFire x = new SeamFire(2, 2);
        x.house(0, 1, 1);
        x.person(0, 0, ask);
        x.person(0, 0, 0);
        x.offer(0, 0, 9);
        return x;
    }

    private static void bounds(Edge edge) {
        edge.sentence(23, "PULL: true (0 .. 999). False for others");
        for (int pull : new int[] {0, 1, 998, 999}) {
            SeamFire x = twoOfAKin(pull);
            edge.yes("pull(" + pull + ")", x.pull(pull));
            x.weeks(1);
            edge.is("who asks " + pull + " goes", 0, x.gone(0));
            SeamFire y = twoOfAKin(pull + 1);
            y.pull(pull);
            y.weeks(1);
            edge.is("who asks one more doesn't", -1, y.gone(0));
        }
        for (int pull : new int[] {-1, 1000, Edge.MIN, Edge.MAX}) {
            edge.refusedAlways("pull(" + pull + ")", 0, o -> o.pull(pull) ? 1 : 0);
            SeamFire x = twoOfAKin(200);
            x.pull(199);
            edge.no("pull(" + pull + ")", x.pull(pull));
            x.weeks(1);
            edge.is("it is 199 still", -1, x.gone(0));
            SeamFire y = twoOfAKin(200);
            y.pull(200);
            y.pull(pull);
            y.weeks(1);
            edge.is("it is 200 still", 0, y.gone(0));
        }
    }

    private static void atFirst(Edge edge) {
        edge.sentence(23, "PULL (at first 0)");
        SeamFire x = twoOfAKin(1);
        x.weeks(1);
        edge.is("who asks 1 stays", -1, x.gone(0));
        SeamFire y = twoOfAKin(0);
        y.weeks(1);
        edge.is("who asks 0 goes", 0, y.gone(0));
    }

    private static void latest(Edge edge) {
        edge.sentence(23, "PULL: the latest");
        SeamFire x = twoOfAKin(100);
        x.pull(999);
        x.pull(99);
        x.weeks(1);
        edge.is("99 in place of 999", -1, x.gone(0));
        x.pull(100);
        x.weeks(1);
        edge.is("100 in place of 99", 1, x.gone(0));
        Edge.until(x, 100);
        edge.yes("pull(0) at 100", x.pull(0));
    }
}
