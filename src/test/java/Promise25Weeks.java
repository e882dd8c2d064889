/** Promise 25: weeks. */
final class Promise25Weeks {
    private Promise25Weeks() {
    }

    static void tests(Edge edge) {
        bounds(edge);
        beyondHundred(edge);
        eachWeek(edge);
        askOrAbove(edge);
        kinOfAllHouses(edge);
        overAndOver(edge);
        longestChain(edge);
        byNumbers(edge);
    }

    private static void bounds(Edge edge) {
        edge.sentence(25, "n WEEKS go by (1 .. 20): the clock. NONE for others");
        for (int n = 1; n <= 20; n++) {
            SeamFire x = new SeamFire(2, 2);
            edge.is("weeks(" + n + ")", n, x.weeks(n));
            edge.is("about(0)", n, x.about(0));
            edge.is("weeks(" + n + ") once more", 2 * n, x.weeks(n));
        }
        for (int n : new int[] {0, -1, 21, 100, Edge.MIN, Edge.MAX}) {
            edge.refusedAlways("weeks(" + n + ")", -1, o -> o.weeks(n));
        }
    }

    private static void beyondHundred(Edge edge) {
        edge.sentence(25, "NONE beyond 100");
        for (int n = 1; n <= 20; n++) {
            SeamFire x = new SeamFire(2, 2);
            Edge.until(x, 101 - n);
            edge.is("weeks(" + n + ") at " + (101 - n), -1, x.weeks(n));
            edge.is("none of them goes by", 101 - n, x.about(0));
            SeamFire y = new SeamFire(2, 2);
            Edge.until(y, 100 - n);
            edge.is("weeks(" + n + ") at " + (100 - n), 100, y.weeks(n));
            edge.is("no more", -1, y.weeks(1));
        }
        for (int n : new int[] {1, 2, 19, 20}) {
            edge.refused("weeks(" + n + ")", -1, o -> o.weeks(n), World.ENDED);
        }
        edge.refusedAfter(4, 3, o -> {
            World.seam(o);
            World.town(o);
            Edge.until(o, 95);
            o.offer(0, 9999, 99);
        }, "weeks(6) at 95", -1, o -> o.weeks(6));
    }

    private static void eachWeek(Edge edge) {
        edge.sentence(25, "n WEEKS go by: an OFFER that stands in it");
        SeamFire x = new SeamFire(2, 2);
        x.house(0, 1, 1);
        x.house(0, 1, 1);
        x.person(0, 0, 0);
        x.person(1, 0, 100);
        x.pull(100);
        x.weeks(4);
        x.offer(0, 0, 4);
        x.offer(1, 0, 23);
        edge.is("weeks(20)", 24, x.weeks(20));
        edge.is("in the first of 20", 4, x.gone(0));
        edge.is("its KIN with it", 4, x.gone(1));
        SeamFire y = new SeamFire(2, 2);
        y.house(0, 1, 1);
        y.person(0, 0, 1);
        y.offer(0, 0, 99);
        y.weeks(20);
        edge.is("not for less", -1, y.gone(0));
        y.hears(0, 1);
        y.weeks(20);
        edge.is("in 20", 20, y.gone(0));
    }

    private static void askOrAbove(Edge edge) {
        edge.sentence(25, "PRICE and HEARD * 100 and PULL * (how many of its KIN have gone by then) together "
                + "are ASK or above");
        int together = 250 + 300 + 2 * 70;
        for (int ask = together - 1; ask <= together + 1; ask++) {
            SeamFire x = new SeamFire(2, 2);
            x.house(0, 1, 1);
            x.person(0, 6, 0);
            x.person(0, 6, 0);
            x.person(0, 5, 0);
            x.person(0, 6, ask);
            x.hears(3, 3);
            x.pull(70);
            x.offer(0, 250, 0);
            x.weeks(1);
            edge.is("ASK " + ask + " for " + together, ask <= together ? 0 : -1, x.gone(3));
        }
        SeamFire most = new SeamFire(2, 2);
        most.house(0, 1, 1);
        most.person(0, 0, 9999);
        most.offer(0, 9999, 0);
        most.hears(0, 9);
        most.pull(999);
        most.weeks(1);
        edge.is("the greatest of all", 0, most.gone(0));
    }

    private static void kinOfAllHouses(Edge edge) {
        edge.sentence(25, "how many of its KIN have gone by then: in earlier WEEKS and other HOUSES too");
        SeamFire x = new SeamFire(2, 2);
        x.house(0, 1, 1);
        x.house(1, 1, 1);
        x.person(0, 9, 0);
        x.person(1, 9, 300);
        x.person(1, 0, 300);
        x.pull(300);
        x.offer(0, 0, 0);
        x.weeks(1);
        edge.is("without an OFFER it stays", -1, x.gone(1));
        x.weeks(10);
        x.offer(1, 0, 11);
        x.weeks(1);
        edge.is("its KIN went in 0", 11, x.gone(1));
        edge.is("of another KIN none went", -1, x.gone(2));
        SeamFire y = new SeamFire(2, 2);
        y.house(0, 1, 1);
        y.person(0, 9, 300);
        y.pull(300);
        y.offer(0, 0, 9);
        y.weeks(1);
        edge.is("it isn't its own KIN's first", -1, y.gone(0));
    }

    private static void overAndOver(Edge edge) {
        edge.sentence(25, "go over and over, by numbers, until none goes");
        SeamFire x = new SeamFire(2, 2);
        x.house(0, 1, 1);
        x.person(0, 1, 200);
        x.person(0, 1, 100);
        x.person(0, 1, 0);
        x.person(0, 1, 401);
        x.pull(100);
        x.offer(0, 0, 0);
        x.weeks(1);
        edge.is("the last begins", 0, x.gone(2));
        edge.is("the second follows", 0, x.gone(1));
        edge.is("then the first", 0, x.gone(0));
        edge.is("the fourth would need 400", -1, x.gone(3));
    }

    /** Each goes only when all behind it went, so there are as many rounds as people. */
    private static void longestChain(Edge edge) {
        edge.sentence(25, "over and over until none goes: sixty times");
        SeamFire x = new SeamFire(2, 2);
        x.house(0, 1, 1);
        for (int i = 0; i < 60; i++) {
            x.person(0, 1, 100 * (59 - i));
        }
        x.pull(100);
        x.offer(0, 0, 0);
        x.weeks(1);
        edge.is("all went", 60, x.about(9));
        for (int i = 0; i < 60; i++) {
            edge.is("gone(" + i + ")", 0, x.gone(i));
        }
        SeamFire y = new SeamFire(2, 2);
        y.house(0, 1, 1);
        for (int i = 0; i < 60; i++) {
            y.person(0, 1, 100 * (59 - i) + (i == 0 ? 1 : 0));
        }
        y.pull(100);
        y.offer(0, 0, 0);
        y.weeks(1);
        edge.is("all but the last of the chain", 59, y.about(9));
        edge.is("gone(0)", -1, y.gone(0));
    }

    private static void byNumbers(Edge edge) {
        edge.sentence(25, "by numbers: who goes counts at once for those behind");
        SeamFire x = new SeamFire(2, 2);
        x.house(0, 1, 1);
        for (int i = 0; i < 60; i++) {
            x.person(0, 1, 100 * i);
        }
        x.pull(100);
        x.offer(0, 0, 0);
        x.weeks(1);
        edge.is("all went", 60, x.about(9));
    }
}
