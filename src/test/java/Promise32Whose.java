/** Promise 32: whose. */
final class Promise32Whose {
    private Promise32Whose() {
    }

    static void tests(Edge edge) {
        weeks(edge);
        owners(edge);
        none(edge);
        first(edge);
        people(edge);
        asksAlone(edge);
    }

    private static SeamFire with(String text) {
        SeamFire x = new SeamFire(2, 2);
        x.house(0, 1, 1);
        Due.act(x, text);
        x.force(0, 0, 99);
        return x;
    }

    private static void weeks(Edge edge) {
        edge.sentence(32, "OWNER in a WEEK. NONE for others, too");
        SeamFire x = with("whose 3 week=0; whose 4 week=99; whose 5 1=1;");
        edge.is("whose(0)", 3, x.whose(0));
        edge.is("whose(1)", 5, x.whose(1));
        edge.is("whose(98)", 5, x.whose(98));
        edge.is("whose(99)", 4, x.whose(99));
        edge.is("whose(-1)", -1, x.whose(-1));
        edge.is("whose(100)", -1, x.whose(100));
        for (int week : new int[] {-1, 100, Edge.MIN, Edge.MAX}) {
            edge.refusedAlways("whose(" + week + ")", -1, o -> o.whose(week));
        }
    }

    private static void owners(Edge edge) {
        edge.sentence(32, "whose NUMBER EITHER ; (0 .. 9)");
        for (int owner = 0; owner <= 9; owner++) {
            edge.is("whose " + owner, owner, with("whose " + owner + " 1=1;").whose(0));
        }
        edge.is("whose 007", 7, with("whose 007 1=1;").whose(0));
    }

    private static void none(Edge edge) {
        edge.sentence(32, "OWNER: of the first whose that is so (NONE: none)");
        SeamFire x = new SeamFire(2, 2);
        edge.is("no ACT", -1, x.whose(0));
        edge.is("no FORCE", 0, Due.act(x, "whose 1 1=1;"));
        edge.is("no FORCE", -1, x.whose(0));
        x.force(0, 5, 6);
        edge.is("ahead of it", -1, x.whose(4));
        edge.is("from", 1, x.whose(5));
        edge.is("to", 1, x.whose(6));
        edge.is("behind it", -1, x.whose(7));
        edge.is("none is so", -1, with("whose 1 1=2; whose 2 2=3;").whose(0));
        edge.is("no such CLAUSE", -1, with("worth 1; yes 1=1; shut 1=1;").whose(0));
        Due.act(x, "whose 2 1=2;");
        x.force(1, 5, 5);
        edge.is("the latest alone is asked", -1, x.whose(5));
        edge.is("the one ahead in 6", 1, x.whose(6));
    }

    private static void first(Edge edge) {
        edge.sentence(32, "the first whose that is so: of 20 at most");
        StringBuilder text = new StringBuilder();
        for (int i = 0; i < 20; i++) {
            text.append("whose").append(i % 10).append("week=").append(i).append(';');
        }
        SeamFire x = with(text.toString());
        for (int week = 0; week < 20; week++) {
            edge.is("whose(" + week + ")", week % 10, x.whose(week));
        }
        edge.is("whose(20)", -1, x.whose(20));
        edge.is("of two", 8, with("whose 8 week>3; whose 7 week>2;").whose(4));
        edge.is("of two", 7, with("whose 8 week>3; whose 7 week>2;").whose(3));
        edge.is("other CLAUSES between", 7, with("yes 1=1; whose 8 1=2; worth 5; whose 7 1=1; shut 1=1;").whose(3));
    }

    private static void people(Edge edge) {
        edge.sentence(32, "people (in whose: of all HOUSES)");
        SeamFire x = with("whose 0 people=0; whose 1 people=1; whose 3 people=3;");
        edge.is("nobody", 0, x.whose(0));
        x.house(1, 1, 1);
        x.person(0, 0, 0);
        edge.is("one", 1, x.whose(0));
        x.person(1, 0, 9);
        edge.is("two", -1, x.whose(0));
        x.person(1, 0, 9);
        edge.is("three", 3, x.whose(0));
        x.offer(0, 0, 0);
        x.weeks(1);
        edge.is("two there now", -1, x.whose(0));
        x.offer(1, 9, 1);
        x.weeks(1);
        edge.is("nobody is left", 0, x.whose(0));
    }

    private static void asksAlone(Edge edge) {
        edge.sentence(32, "Nothing beyond the answers and state changes described: it asks alone");
        edge.asksAlone("whose(40)", o -> o.whose(40));
    }
}
