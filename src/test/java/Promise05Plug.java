/** Promise 5: plug. */
final class Promise05Plug {
    private Promise05Plug() {
    }

    static void tests(Edge edge) {
        numbers(edge);
        twice(edge);
        weeks(edge);
        asked(edge);
        sameWeek(edge);
        atTheEnd(edge);
        all(edge);
    }

    private static long plug(SeamFire x, int hole) {
        return x.plug(hole) ? 1 : 0;
    }

    private static void numbers(Edge edge) {
        edge.sentence(5, "PLUGGED: true. False for others");
        SeamFire x = new SeamFire(2, 2);
        edge.no("plug(0) of none", x.plug(0));
        x.hole(0);
        x.hole(1);
        edge.no("plug(2) of two", x.plug(2));
        edge.yes("plug(1) of two", x.plug(1));
        edge.yes("plug(0) of two", x.plug(0));
        for (int hole : new int[] {-1, 20, Edge.MIN, Edge.MAX}) {
            edge.refusedAlways("plug(" + hole + ")", 0, o -> plug(o, hole));
        }
        edge.refused("plug(0)", 0, o -> plug(o, 0), World.NEW);
        edge.refused("plug(3)", 0, o -> plug(o, 3), World.BEGUN, World.READ);
        edge.refused("plug(4)", 0, o -> plug(o, 4), World.LATER, World.ENDED);
    }

    private static void twice(Edge edge) {
        edge.sentence(5, "False if it is");
        edge.refused("plug(1), which is", 0, o -> plug(o, 1), World.BEGUN, World.LATER, World.FULL, World.READ,
                World.ENDED);
        edge.refused("plug(0), which is", 0, o -> plug(o, 0), World.LATER, World.ENDED);
        SeamFire x = Edge.seam(2, 2, 1, 999);
        x.state(0, 0);
        x.hole(3);
        x.weeks(4);
        x.plug(0);
        x.weeks(4);
        edge.no("four weeks later", x.plug(0));
        edge.is("the first week counts", 0, x.burns(0, 4, 3, 3));
        edge.is("and the one ahead of it", 1, x.burns(0, 3, 3, 3));
    }

    private static void weeks(Edge edge) {
        edge.sentence(5, "from the clock's WEEK on: open to the one ahead of that in which it was plugged");
        for (int clock : new int[] {1, 2, 50, 99}) {
            SeamFire x = Edge.seam(2, 2, 1, 999);
            x.state(0, 0);
            x.hole(3);
            Edge.until(x, clock);
            edge.yes("plug(0) at " + clock, x.plug(0));
            edge.is("AIR in 0", 1, x.burns(0, 0, 3, 3));
            edge.is("AIR ahead of " + clock, 1, x.burns(0, clock - 1, 3, 3));
            edge.is("AIR in " + clock, 0, x.burns(0, clock, 3, 3));
            edge.is("AIR in 99", 0, x.burns(0, 99, 3, 3));
        }
    }

    private static void asked(Edge edge) {
        edge.sentence(5, "from the clock's WEEK on: what was asked ahead of it is asked again");
        SeamFire y = Edge.seam(2, 2, 1, 999);
        y.state(0, 0);
        y.hole(0);
        y.weeks(3);
        edge.is("tons in 4, asked ahead of it", 959, y.burns(0, 4, 0, 1));
        y.plug(0);
        edge.is("tons in 4", 964, y.burns(0, 4, 0, 1));
        edge.is("tons in 5", 959, y.burns(0, 5, 0, 1));
        edge.is("tons in 3", 969, y.burns(0, 3, 0, 1));
    }

    private static void sameWeek(Edge edge) {
        edge.sentence(5, "PLUGGED in the WEEK in which it was bored: it is never open");
        SeamFire x = Edge.seam(2, 2, 1, 999);
        x.state(0, 0);
        x.weeks(5);
        x.hole(3);
        edge.is("AIR ahead of the plugging", 1, x.burns(0, 5, 3, 3));
        x.plug(0);
        for (int week : new int[] {4, 5, 6, 99}) {
            edge.is("AIR in " + week, 0, x.burns(0, week, 3, 3));
        }
        x.hole(3);
        edge.is("another HOLE there is open", 1, x.burns(0, 5, 3, 3));
    }

    private static void atTheEnd(Edge edge) {
        edge.sentence(5, "PLUGGED from the clock's WEEK on: at 100 too, when no WEEK is left");
        SeamFire x = Edge.seam(2, 2, 1, 999);
        x.state(0, 0);
        x.hole(3);
        Edge.until(x, 100);
        edge.yes("plug(0)", x.plug(0));
        edge.is("AIR in 99", 1, x.burns(0, 99, 3, 3));
        edge.no("plug(0), which is", x.plug(0));
    }

    private static void all(Edge edge) {
        edge.sentence(5, "HOLES 0 .. 19: the last of them too");
        SeamFire x = new SeamFire(2, 2);
        for (int i = 0; i < 20; i++) {
            x.hole(3);
        }
        for (int i = 19; i >= 0; i--) {
            edge.yes("plug(" + i + ")", x.plug(i));
        }
        edge.no("plug(20)", x.plug(20));
        edge.is("about(3) counts them still", 20, x.about(3));
    }
}
