/** Promise 22: offer. */
final class Promise22Offer {
    private Promise22Offer() {
    }

    static void tests(Edge edge) {
        houses(edge);
        prices(edge);
        till(edge);
        both(edge);
        atTheEnd(edge);
        inPlace(edge);
        without(edge);
    }

    private static long offer(SeamFire x, int house, int price, int till) {
        return x.offer(house, price, till) ? 1 : 0;
    }

    private static SeamFire asks(int ask) {
        SeamFire x = new SeamFire(2, 2);
        x.house(0, 1, 1);
        x.person(0, 0, ask);
        return x;
    }

    private static void houses(Edge edge) {
        edge.sentence(22, "An OFFER: true. False for others");
        SeamFire x = new SeamFire(2, 2);
        edge.no("offer(0, 5, 5) of no HOUSE", x.offer(0, 5, 5));
        x.house(0, 1, 1);
        edge.yes("offer(0, 5, 5)", x.offer(0, 5, 5));
        edge.no("offer(1, 5, 5) of one HOUSE", x.offer(1, 5, 5));
        for (int house : new int[] {-1, 20, Edge.MIN, Edge.MAX}) {
            edge.refusedAlways("offer(" + house + ", 9999, 99)", 0, o -> offer(o, house, 9999, 99));
        }
        edge.refused("offer(3, 9999, 99)", 0, o -> offer(o, 3, 9999, 99), World.BEGUN, World.LATER, World.READ);
        SeamFire y = new SeamFire(2, 2);
        for (int i = 0; i < 20; i++) {
            y.house(0, 1, 1);
        }
        y.person(19, 0, 5);
        edge.yes("offer(19, 5, 0)", y.offer(19, 5, 0));
        y.weeks(1);
        edge.is("of the last HOUSE", 0, y.gone(0));
    }

    private static void prices(Edge edge) {
        edge.sentence(22, "a PRICE (0 .. 9999)");
        for (int price : new int[] {0, 1, 9998, 9999}) {
            SeamFire x = asks(price);
            edge.yes("offer(0, " + price + ", 0)", x.offer(0, price, 0));
            x.weeks(1);
            edge.is("who asks " + price + " goes", 0, x.gone(0));
            if (price < 9999) {
                SeamFire y = asks(price + 1);
                y.offer(0, price, 0);
                y.weeks(1);
                edge.is("who asks one more doesn't", -1, y.gone(0));
            }
        }
        for (int price : new int[] {-1, 10000, Edge.MIN, Edge.MAX}) {
            edge.refusedAlways("offer(1, " + price + ", 99)", 0, o -> offer(o, 1, price, 99));
        }
    }

    private static void till(Edge edge) {
        edge.sentence(22, "till not ahead of the clock's WEEK");
        for (int clock : new int[] {0, 1, 50, 99}) {
            SeamFire x = asks(0);
            Edge.until(x, clock);
            edge.no("till ahead of " + clock, x.offer(0, 0, clock - 1));
            edge.no("till 100", x.offer(0, 0, 100));
            edge.yes("till " + clock, x.offer(0, 0, clock));
            edge.yes("till 99", x.offer(0, 0, 99));
        }
        for (int till : new int[] {-1, 100, Edge.MIN, Edge.MAX}) {
            edge.refusedAlways("offer(1, 9999, " + till + ")", 0, o -> offer(o, 1, 9999, till));
        }
        edge.refused("offer(1, 9999, 6)", 0, o -> offer(o, 1, 9999, 6), World.LATER);
        edge.refused("offer(1, 9999, 1)", 0, o -> offer(o, 1, 9999, 1), World.FULL, World.READ);
        edge.refused("offer(1, 0, 6), in place of one", 0, o -> offer(o, 1, 0, 6), World.LATER);
    }

    /** A person that comes in the last week of an offer goes, one that comes a week later doesn't. */
    private static void both(Edge edge) {
        edge.sentence(22, "up to a WEEK (both)");
        SeamFire x = asks(0);
        x.weeks(3);
        x.offer(0, 0, 5);
        x.weeks(1);
        edge.is("in the clock's", 3, x.gone(0));
        x.weeks(1);
        x.person(0, 0, 0);
        x.weeks(1);
        edge.is("in the last", 5, x.gone(1));
        x.person(0, 0, 0);
        x.weeks(1);
        edge.is("a WEEK later", -1, x.gone(2));
        SeamFire y = asks(0);
        Edge.until(y, 99);
        y.offer(0, 0, 99);
        y.weeks(1);
        edge.is("in 99", 99, y.gone(0));
    }

    private static void atTheEnd(Edge edge) {
        edge.sentence(22, "till not ahead of the clock's WEEK: at 100 there is none");
        SeamFire x = asks(0);
        Edge.until(x, 100);
        edge.no("till 99", x.offer(0, 0, 99));
        edge.no("till 100", x.offer(0, 0, 100));
        edge.refused("offer(1, 9999, 99)", 0, o -> offer(o, 1, 9999, 99), World.ENDED);
    }

    private static void inPlace(Edge edge) {
        edge.sentence(22, "in place of the one it had");
        SeamFire x = asks(500);
        x.offer(0, 500, 9);
        x.offer(0, 499, 9);
        x.weeks(1);
        edge.is("a lower PRICE", -1, x.gone(0));
        x.offer(0, 500, 1);
        x.offer(0, 0, 99);
        x.weeks(1);
        edge.is("a later end for less", -1, x.gone(0));
        x.offer(0, 500, 2);
        x.weeks(1);
        edge.is("a higher PRICE for one WEEK", 2, x.gone(0));
        SeamFire y = asks(500);
        y.offer(0, 500, 9);
        edge.no("a refused one", y.offer(0, 10000, 9));
        y.weeks(1);
        edge.is("leaves it", 0, y.gone(0));
    }

    private static void without(Edge edge) {
        edge.sentence(22, "people in HOUSES with an OFFER that stands");
        SeamFire x = asks(0);
        x.house(1, 1, 1);
        x.person(1, 0, 0);
        x.offer(1, 0, 0);
        x.weeks(1);
        edge.is("without an OFFER nobody goes, not for 0", -1, x.gone(0));
        edge.is("with one of 0", 0, x.gone(1));
        Edge.until(x, 100);
        edge.is("never", -1, x.gone(0));
    }
}
