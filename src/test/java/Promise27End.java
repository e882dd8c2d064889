/** Promise 27: end. */
final class Promise27End {
    private Promise27End() {
    }

    static void tests(Edge edge) {
        lengths(edge);
        refused(edge);
        firstBytes(edge);
    }

    private static void lengths(Edge edge) {
        edge.sentence(27, "The tape has its first n bytes alone: n");
        SeamFire x = new SeamFire(2, 2);
        edge.is("end(0) of none", 0, x.end(0));
        for (int i = 0; i < 15; i++) {
            x.feed(0, 0, 0, 0, 0);
        }
        for (int n : new int[] {300, 299, 20, 19, 1, 0}) {
            edge.is("end(" + n + ")", n, x.end(n));
            edge.is("about(13)", n, x.about(13));
            edge.is("end(" + n + ") once more", n, x.end(n));
            edge.is("end(" + (n + 1) + ")", -1, x.end(n + 1));
            edge.is("about(13)", n, x.about(13));
        }
    }

    private static void refused(Edge edge) {
        edge.sentence(27, "NONE, and nothing is done, if it has not so many, or n is below 0");
        for (int n : new int[] {-1, 301, Edge.MIN, Edge.MAX}) {
            edge.refusedAlways("end(" + n + ")", -1, o -> o.end(n));
        }
        edge.refused("end(1)", -1, o -> o.end(1), World.NEW, World.READ);
        edge.refused("end(9)", -1, o -> o.end(9), World.LATER);
        edge.refused("end(13)", -1, o -> o.end(13), World.ENDED);
        edge.refused("end(52)", -1, o -> o.end(52), World.BEGUN);
    }

    private static void firstBytes(Edge edge) {
        edge.sentence(27, "its first n bytes alone");
        String text = "yes 1=1; whose 1 1=1; worth 1;";
        int[] good = {0, 8, 9, 21, 22, 30};
        for (int n = 0; n <= text.length(); n++) {
            SeamFire x = new SeamFire(2, 2);
            Due.put(x, text);
            x.end(n);
            boolean whole = false;
            for (int g : good) {
                whole |= g == n;
            }
            edge.is("act() of " + n, whole ? 0 : -1, x.act());
        }
    }
}
