/** Promise 21: hears. */
final class Promise21Hears {
    private Promise21Hears() {
    }

    static void tests(Edge edge) {
        people(edge);
        heard(edge);
        inPlace(edge);
        last(edge);
    }

    private static long hears(SeamFire x, int person, int heard) {
        return x.hears(person, heard) ? 1 : 0;
    }

    private static void people(Edge edge) {
        edge.sentence(21, "HEARD of a person: true. False for others");
        SeamFire x = new SeamFire(2, 2);
        x.house(0, 1, 1);
        edge.no("hears(0, 1) of nobody", x.hears(0, 1));
        x.person(0, 0, 0);
        edge.no("hears(1, 1) of one", x.hears(1, 1));
        edge.yes("hears(0, 1) of one", x.hears(0, 1));
        for (int person : new int[] {-1, 60, Edge.MIN, Edge.MAX}) {
            edge.refusedAlways("hears(" + person + ", 5)", 0, o -> hears(o, person, 5));
        }
        edge.refused("hears(7, 5)", 0, o -> hears(o, 7, 5), World.BEGUN, World.LATER, World.READ, World.ENDED);
        edge.refused("hears(0, 0)", 0, o -> hears(o, 0, 0), World.NEW);
    }

    private static void heard(Edge edge) {
        edge.sentence(21, "HEARD (0 .. 9)");
        for (int heard = 0; heard <= 9; heard++) {
            for (int ask = heard * 100; ask <= heard * 100 + 1; ask++) {
                SeamFire x = new SeamFire(2, 2);
                x.house(0, 1, 1);
                x.person(0, 0, ask);
                edge.yes("hears(0, " + heard + ")", x.hears(0, heard));
                x.offer(0, 0, 0);
                x.weeks(1);
                edge.is("who asks " + ask, ask == heard * 100 ? 0 : -1, x.gone(0));
            }
        }
        for (int heard : new int[] {-1, 10, Edge.MIN, Edge.MAX}) {
            edge.refusedAlways("hears(1, " + heard + ")", 0, o -> hears(o, 1, heard));
            edge.refusedAlways("hears(6, " + heard + ")", 0, o -> hears(o, 6, heard));
        }
    }

    private static void inPlace(Edge edge) {
        edge.sentence(21, "HEARD of a person: the latest");
        SeamFire x = new SeamFire(2, 2);
        x.house(0, 1, 1);
        x.person(0, 0, 300);
        x.person(0, 0, 300);
        x.hears(0, 9);
        x.hears(0, 0);
        x.offer(0, 0, 9);
        x.weeks(1);
        edge.is("0 in place of 9", -1, x.gone(0));
        x.hears(0, 3);
        x.weeks(1);
        edge.is("3 in place of 0", 1, x.gone(0));
        edge.is("another has its own", -1, x.gone(1));
        edge.yes("one that went", x.hears(0, 9));
        edge.is("stays so", 1, x.gone(0));
    }

    private static void last(Edge edge) {
        edge.sentence(21, "PEOPLE 0 .. 59: the last of them too");
        SeamFire x = new SeamFire(2, 2);
        x.house(0, 1, 1);
        for (int i = 0; i < 60; i++) {
            x.person(0, 0, 900);
        }
        edge.yes("hears(59, 9)", x.hears(59, 9));
        edge.no("hears(60, 9)", x.hears(60, 9));
        x.offer(0, 0, 0);
        x.weeks(1);
        edge.is("it goes", 0, x.gone(59));
        edge.is("alone", 1, x.about(9));
    }
}
