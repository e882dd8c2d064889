/** Promise 26: feed. */
final class Promise26Feed {
    private static final int BLANKS = 0x20202020;

    private Promise26Feed() {
    }

    static void tests(Edge edge) {
        twenty(edge);
        order(edge);
        anyByte(edge);
        threeHundred(edge);
        behindWhatIsThere(edge);
    }

    private static int blanks(SeamFire x) {
        return x.feed(BLANKS, BLANKS, BLANKS, BLANKS, BLANKS);
    }

    private static void twenty(Edge edge) {
        edge.sentence(26, "Twenty bytes come behind the tape: how many it has");
        SeamFire x = new SeamFire(2, 2);
        edge.is("about(13) of none", 0, x.about(13));
        for (int i = 1; i <= 15; i++) {
            edge.is("feed", 20 * i, blanks(x));
            edge.is("about(13)", 20 * i, x.about(13));
        }
        int[] values = {0, -1, Edge.MIN, Edge.MAX};
        for (int v : values) {
            edge.is("feed of " + v, 20, new SeamFire(2, 2).feed(v, v, v, v, v));
        }
    }

    /** One byte that is no token among blanks: its place tells where it came to. */
    private static void order(Edge edge) {
        edge.sentence(26, "the highest of a first");
        for (int i = 0; i < 20; i++) {
            int[] words = {BLANKS, BLANKS, BLANKS, BLANKS, BLANKS};
            int shift = 24 - 8 * (i % 4);
            words[i / 4] = BLANKS & ~(255 << shift) | '?' << shift;
            SeamFire x = new SeamFire(2, 2);
            x.feed(words[0], words[1], words[2], words[3], words[4]);
            edge.is("act() with ? at " + i, -1, x.act());
            edge.is("its place", i, x.fault(1));
        }
    }

    /** A byte above 127 makes a word negative, and still is a byte of its own. */
    private static void anyByte(Edge edge) {
        edge.sentence(26, "Twenty bytes: each 0 .. 255");
        for (int b = 0; b < 256; b++) {
            boolean blank = b == 32 || b == 10;
            for (int shift = 0; shift <= 24; shift += 8) {
                SeamFire x = new SeamFire(2, 2);
                int word = BLANKS & ~(255 << shift) | b << shift;
                x.feed(BLANKS, BLANKS, word, BLANKS, BLANKS);
                edge.is("act() with byte " + b, blank ? 0 : -1, x.act());
                edge.is("its FAULT", blank ? 0 : 1, x.fault(0));
                edge.is("its place", blank ? -1 : 8 + (24 - shift) / 8, x.fault(1));
            }
        }
    }

    private static void threeHundred(Edge edge) {
        edge.sentence(26, "NONE, and none come, if there would be more than 300");
        SeamFire x = new SeamFire(2, 2);
        for (int i = 0; i < 15; i++) {
            blanks(x);
        }
        edge.is("behind 300", -1, blanks(x));
        edge.is("about(13)", 300, x.about(13));
        x.end(281);
        edge.is("behind 281", -1, x.feed(0, 0, 0, 0, 0));
        edge.is("about(13)", 281, x.about(13));
        x.end(280);
        edge.is("behind 280", 300, blanks(x));
        edge.is("the bytes that came not aren't there", 0, x.act());
        edge.refused("feed", -1, o -> o.feed(0, 0, 0, 0, 0), World.FULL);
        edge.refused("feed", -1, o -> o.feed(-1, -1, -1, -1, -1), World.FULL);
        for (int n : new int[] {281, 282, 299}) {
            edge.refusedAfter(4, 3, o -> {
                World.FULL.make(o);
                o.end(n);
            }, "feed behind " + n, -1, o -> o.feed(0, 0, 0, 0, 0));
        }
    }

    private static void behindWhatIsThere(Edge edge) {
        edge.sentence(26, "come behind the tape");
        SeamFire x = new SeamFire(2, 2);
        Due.put(x, "yes 1");
        edge.is("behind five", 25, x.feed(0x3D313B20, BLANKS, BLANKS, BLANKS, BLANKS));
        edge.is("yes 1=1;", 0, x.act());
        SeamFire y = new SeamFire(2, 2);
        Due.put(y, "yes 1=1;?");
        y.end(8);
        edge.is("what end cut is gone", 28, blanks(y));
        edge.is("yes 1=1;", 0, y.act());
        edge.is("behind an ACT the tape begins anew", 20, blanks(y));
        Due.put(y, "?");
        y.act();
        edge.is("behind a FAULT too", 20, blanks(y));
    }
}
