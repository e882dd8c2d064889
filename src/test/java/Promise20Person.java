/** Promise 20: person. */
final class Promise20Person {
    private Promise20Person() {
    }

    static void tests(Edge edge) {
        houses(edge);
        kin(edge);
        ask(edge);
        sixty(edge);
        atFirst(edge);
    }

    private static SeamFire oneHouse() {
        SeamFire x = new SeamFire(2, 2);
        x.house(0, 1, 1);
        return x;
    }

    private static void houses(Edge edge) {
        edge.sentence(20, "A person: the number. NONE for others");
        SeamFire x = new SeamFire(2, 2);
        edge.is("person(0, 0, 0) of no HOUSE", -1, x.person(0, 0, 0));
        x.house(0, 1, 1);
        edge.is("person(0, 0, 0)", 0, x.person(0, 0, 0));
        edge.is("person(1, 0, 0) of one HOUSE", -1, x.person(1, 0, 0));
        x.house(0, 1, 1);
        edge.is("person(1, 0, 0) of two, no number is left out", 1, x.person(1, 0, 0));
        for (int house : new int[] {-1, 20, Edge.MIN, Edge.MAX}) {
            edge.refusedAlways("person(" + house + ", 0, 0)", -1, o -> o.person(house, 0, 0));
        }
        edge.refused("person(3, 0, 0)", -1, o -> o.person(3, 0, 0), World.BEGUN, World.LATER, World.READ,
                World.ENDED);
        edge.refused("person(0, 0, 0)", -1, o -> o.person(0, 0, 0), World.NEW);
    }

    private static void kin(Edge edge) {
        edge.sentence(20, "a KIN (0 .. 9)");
        for (int kin = 0; kin <= 9; kin++) {
            SeamFire x = oneHouse();
            edge.is("person(0, " + kin + ", 100)", 0, x.person(0, kin, 100));
            Due.act(x, "yes kin=" + kin + ";");
            x.force(0, 0, 99);
            edge.is("yes", 1, x.vote(0, 0));
            x.person(0, kin, 0);
            x.pull(100);
            x.offer(0, 0, 0);
            x.weeks(1);
            edge.is("it goes by its KIN", 0, x.gone(0));
        }
        for (int kin : new int[] {-1, 10, Edge.MIN, Edge.MAX}) {
            edge.refusedAlways("person(0, " + kin + ", 0)", -1, o -> o.person(0, kin, 0));
        }
    }

    private static void ask(Edge edge) {
        edge.sentence(20, "ASK (0 .. 9999)");
        for (int ask : new int[] {0, 1, 9998, 9999}) {
            SeamFire x = oneHouse();
            edge.is("person(0, 0, " + ask + ")", 0, x.person(0, 0, ask));
            edge.is("GIFT", ask, x.vote(0, 2));
        }
        for (int ask : new int[] {-1, 10000, Edge.MIN, Edge.MAX}) {
            edge.refusedAlways("person(0, 0, " + ask + ")", -1, o -> o.person(0, 0, ask));
        }
    }

    private static void sixty(Edge edge) {
        edge.sentence(20, "NONE if there are 60");
        SeamFire x = oneHouse();
        for (int i = 0; i < 60; i++) {
            edge.is("person", i, x.person(0, i % 10, 7));
        }
        edge.is("the 61st", -1, x.person(0, 0, 7));
        edge.is("about(8)", 60, x.about(8));
        edge.is("all vote", 60, x.vote(0, 1));
        x.offer(0, 7, 0);
        x.weeks(1);
        edge.is("all went", 60, x.about(9));
        edge.is("the last too", 0, x.gone(59));
        edge.is("those who went count", -1, x.person(0, 0, 7));
        edge.refused("person(0, 0, 0)", -1, o -> o.person(0, 0, 0), World.FULL);
        edge.refused("person(19, 9, 9999)", -1, o -> o.person(19, 9, 9999), World.FULL);
    }

    private static void atFirst(Edge edge) {
        edge.sentence(20, "HEARD (0 .. 9; at first 0)");
        SeamFire x = oneHouse();
        x.person(0, 0, 1);
        Due.act(x, "yes heard=0;");
        x.force(0, 0, 99);
        edge.is("HEARD 0", 1, x.vote(0, 0));
        x.offer(0, 0, 0);
        x.weeks(1);
        edge.is("it is there", -1, x.gone(0));
        Edge.until(x, 100);
        edge.is("one more at 100", 1, x.person(0, 0, 1));
        edge.is("both are there", 2, x.vote(0, 0));
    }
}
