/** Promise 33: vote. */
final class Promise33Vote {
    private Promise33Vote() {
    }

    static void tests(Edge edge) {
        numbers(edge);
        nobody(edge);
        withoutAnAct(edge);
        stillThere(edge);
        carries(edge);
        gift(edge);
        giftOfSixty(edge);
        names(edge);
        asksAlone(edge);
    }

    /** So many who say yes, and one who says no for each ask; those who say yes ask 1. */
    private static SeamFire votes(int yes, int... asks) {
        SeamFire x = new SeamFire(2, 2);
        x.house(0, 1, 1);
        Due.act(x, "yes kin=1;");
        x.force(0, 0, 98);
        for (int i = 0; i < yes; i++) {
            x.person(0, 1, 1);
        }
        for (int ask : asks) {
            x.person(0, 2, ask);
        }
        return x;
    }

    private static void numbers(Edge edge) {
        edge.sentence(33, "VOTE in a WEEK: 0 yes, 1 no, 2 GIFT. NONE for others");
        SeamFire x = votes(2, 5);
        edge.is("vote(0, 0)", 2, x.vote(0, 0));
        edge.is("vote(0, 1)", 1, x.vote(0, 1));
        edge.is("vote(0, 2)", 0, x.vote(0, 2));
        edge.is("vote(98, 0)", 2, x.vote(98, 0));
        edge.is("vote(99, 0)", 0, x.vote(99, 0));
        edge.is("vote(99, 1)", 3, x.vote(99, 1));
        for (int what = 0; what <= 2; what++) {
            int of = what;
            for (int week : new int[] {-1, 100, Edge.MIN, Edge.MAX}) {
                edge.refusedAlways("vote(" + week + ", " + what + ")", -1, o -> o.vote(week, of));
            }
        }
        for (int what : new int[] {-1, 3, Edge.MIN, Edge.MAX}) {
            edge.refusedAlways("vote(0, " + what + ")", -1, o -> o.vote(0, what));
        }
    }

    private static void nobody(Edge edge) {
        edge.sentence(33, "GIFT: NONE if nobody is there");
        SeamFire x = votes(0);
        edge.is("yes", 0, x.vote(0, 0));
        edge.is("no", 0, x.vote(0, 1));
        edge.is("GIFT", -1, x.vote(0, 2));
        x.person(0, 1, 0);
        x.person(0, 2, 0);
        x.offer(0, 0, 0);
        edge.is("two are", 0, x.vote(0, 2));
        x.weeks(1);
        edge.is("all went: yes", 0, x.vote(0, 0));
        edge.is("all went: no", 0, x.vote(0, 1));
        edge.is("all went: GIFT", -1, x.vote(0, 2));
    }

    private static void withoutAnAct(Edge edge) {
        edge.sentence(33, "votes yes, if yes is so (without an ACT: no)");
        SeamFire x = new SeamFire(2, 2);
        x.house(0, 1, 1);
        x.person(0, 1, 30);
        x.person(0, 1, 20);
        edge.is("no ACT: yes", 0, x.vote(0, 0));
        edge.is("no ACT: no", 2, x.vote(0, 1));
        edge.is("no ACT: GIFT", 50, x.vote(0, 2));
        Due.act(x, "worth 1; shut 1=1; whose 1 1=1;");
        x.force(0, 0, 99);
        edge.is("none with such a CLAUSE", 2, x.vote(0, 1));
        Due.act(x, "yes 1=1;");
        edge.is("one without FORCE", 2, x.vote(0, 1));
        x.force(1, 3, 4);
        edge.is("ahead of it", 0, x.vote(2, 0));
        edge.is("from", 2, x.vote(3, 0));
        edge.is("to", 2, x.vote(4, 0));
        edge.is("behind it", 0, x.vote(5, 0));
    }

    private static void stillThere(Edge edge) {
        edge.sentence(33, "who is still there votes");
        SeamFire x = votes(1, 300, 7);
        x.offer(0, 7, 0);
        x.weeks(1);
        edge.is("who asks 300 is there", -1, x.gone(1));
        edge.is("yes", 0, x.vote(0, 0));
        edge.is("no", 1, x.vote(0, 1));
        edge.is("GIFT", 300, x.vote(0, 2));
    }

    private static void carries(Edge edge) {
        edge.sentence(33, "It CARRIES with more yes than no: GIFT (0 if it does)");
        edge.is("1 to 0", 0, votes(1).vote(0, 2));
        edge.is("0 to 1", 40, votes(0, 40).vote(0, 2));
        edge.is("1 to 1", 40, votes(1, 40).vote(0, 2));
        edge.is("2 to 1", 0, votes(2, 40).vote(0, 2));
        edge.is("2 to 2", 40, votes(2, 60, 40).vote(0, 2));
        edge.is("3 to 2", 0, votes(3, 60, 40).vote(0, 2));
    }

    private static void gift(Edge edge) {
        edge.sentence(33, "GIFT: the least sum of ASKS of those who vote no so that, if these voted yes, it CARRIES");
        edge.is("0 to 2", 100, votes(0, 60, 40).vote(0, 2));
        edge.is("0 to 3", 70, votes(0, 60, 40, 30).vote(0, 2));
        edge.is("1 to 2", 40, votes(1, 60, 40).vote(0, 2));
        edge.is("1 to 3", 70, votes(1, 60, 40, 30).vote(0, 2));
        edge.is("1 to 4", 50, votes(1, 60, 40, 30, 20).vote(0, 2));
        edge.is("like ASKS", 20, votes(1, 10, 10, 10, 10).vote(0, 2));
        edge.is("ASKS of 0", 0, votes(0, 0, 0, 9999).vote(0, 2));
        edge.is("one of 0", 30, votes(0, 30, 0, 9999).vote(0, 2));
        edge.is("the greatest", 9999, votes(0, 9999).vote(0, 2));
        SeamFire x = votes(1, 60, 40, 30);
        edge.is("asked", 70, x.vote(0, 2));
        edge.is("and again", 70, x.vote(0, 2));
        edge.is("yes is as it was", 1, x.vote(0, 0));
    }

    private static void giftOfSixty(Edge edge) {
        edge.sentence(33, "GIFT of PEOPLE 0 .. 59");
        int[] asks = new int[60];
        for (int i = 0; i < 60; i++) {
            asks[i] = 9999 - (i * 7) % 60;
        }
        int sum = 0;
        for (int i = 29; i < 60; i++) {
            sum += 9999 - i;
        }
        edge.is("31 of 60", sum, votes(0, asks).vote(0, 2));
        edge.is("no", 60, votes(0, asks).vote(0, 1));
        int[] like = new int[60];
        java.util.Arrays.fill(like, 9999);
        edge.is("31 of 60 like ones", 31 * 9999, votes(0, like).vote(0, 2));
    }

    private static void names(Edge edge) {
        edge.sentence(33, "heard, ask, kin of who votes, gas, cracks, size, people of its HOUSE");
        String[] texts = {"heard=9", "ask=9999", "kin=9", "kin=0", "gas=36", "gas=16", "cracks=9", "size=2",
            "people=2", "people=1", "week=7", "gas=0"};
        int[] yes = {1, 1, 1, 2, 2, 1, 2, 1, 2, 1, 3, 0};
        for (int i = 0; i < texts.length; i++) {
            SeamFire x = Edge.drawn(999, "cccc", "....");
            x.state(0, 0);
            x.house(0, 9, 1);
            x.house(2, 8, 2);
            x.person(0, 9, 0);
            x.person(0, 0, 9999);
            x.person(1, 0, 5);
            x.hears(2, 9);
            x.state(3, 99);
            Due.act(x, "yes " + texts[i] + ";");
            x.force(0, 0, 99);
            edge.is("yes " + texts[i], yes[i], x.vote(7, 0));
            edge.is("no " + texts[i], 3 - yes[i], x.vote(7, 1));
        }
    }

    private static void asksAlone(Edge edge) {
        edge.sentence(33, "Nothing beyond the answers and state changes described: it asks alone");
        edge.asksAlone("vote(40, 0)", o -> o.vote(40, 0));
        edge.asksAlone("vote(40, 2)", o -> o.vote(40, 2));
    }
}
