/** Promise 31: by. */
final class Promise31By {
    private static final String MOST = "9999*9999*9999";

    private Promise31By() {
    }

    static void tests(Edge edge) {
        numbers(edge);
        shut(edge);
        shutOfNone(edge);
        worth(edge);
        withoutAnAct(edge);
        asIfWithoutGas(edge);
        fromTheLeft(edge);
        division(edge);
        limits(edge);
        comparisons(edge);
        names(edge);
        asksAlone(edge);
    }

    private static void numbers(Edge edge) {
        edge.sentence(31, "Of a HOUSE in a WEEK: SHUT (what 0), WORTH (1), WORTH as if its GAS were 0 (2). NONE for others");
        SeamFire x = new SeamFire(2, 2);
        edge.is("by(0, 0, 1) of no HOUSE", -1, x.by(0, 0, 1));
        x.house(0, 1, 1);
        edge.is("by(0, 0, 0)", 0, x.by(0, 0, 0));
        edge.is("by(0, 99, 1)", 100, x.by(0, 99, 1));
        edge.is("by(0, 99, 2)", 100, x.by(0, 99, 2));
        edge.is("by(1, 0, 1) of one HOUSE", -1, x.by(1, 0, 1));
        for (int what = 0; what <= 2; what++) {
            int of = what;
            for (int v : new int[] {-1, Edge.MIN, Edge.MAX}) {
                edge.refusedAlways("by(" + v + ", 0, " + what + ")", -1, o -> o.by(v, 0, of));
                edge.refusedAlways("by(0, " + v + ", " + what + ")", -1, o -> o.by(0, v, of));
            }
            edge.refusedAlways("by(20, 0, " + what + ")", -1, o -> o.by(20, 0, of));
            edge.refusedAlways("by(0, 100, " + what + ")", -1, o -> o.by(0, 100, of));
            edge.refused("by(3, 0, " + what + ")", -1, o -> o.by(3, 0, of), World.BEGUN, World.LATER, World.READ,
                    World.ENDED);
        }
        for (int what : new int[] {-1, 3, Edge.MIN, Edge.MAX}) {
            edge.refusedAlways("by(0, 0, " + what + ")", -1, o -> o.by(0, 0, what));
        }
    }

    /** The least gas of the house is 3, the greatest 12. */
    private static SeamFire between(String text) {
        SeamFire x = Edge.drawn(999, "cccc", "....");
        x.state(0, 0);
        x.state(3, 0);
        x.house(0, 3, 5);
        Due.act(x, text);
        x.force(0, 0, 98);
        return x;
    }

    private static void shut(Edge edge) {
        edge.sentence(31, "SHUT: 2 by its least GAS and by its greatest, 1 by the greatest alone or the least "
                + "alone, 0 by none");
        String[] texts = {"gas>2", "gas>3", "gas>11", "gas>12", "gas<13", "gas<12", "gas<4", "gas<3", "gas=3 or gas=12",
            "gas=4", "1=1", "1=2"};
        int[] want = {2, 1, 1, 0, 2, 1, 1, 0, 2, 0, 2, 0};
        for (int i = 0; i < texts.length; i++) {
            SeamFire x = between("shut " + texts[i] + ";");
            edge.is("least", 3, x.gas(0, 0, false));
            edge.is("greatest", 12, x.gas(0, 0, true));
            edge.is(texts[i], want[i], x.by(0, 0, 0));
        }
        SeamFire x = between("shut gas>3;");
        edge.is("in 98", 1, x.by(0, 98, 0));
        edge.is("(without an ACT 0)", 0, x.by(0, 99, 0));
    }

    private static void shutOfNone(Edge edge) {
        edge.sentence(31, "SHUT by GAS 0, 0 if no STATE is LET");
        SeamFire x = between("shut gas=0;");
        edge.is("two are", 0, x.by(0, 0, 0));
        x.read(0, 0, false);
        edge.is("one is", 0, x.by(0, 0, 0));
        x.read(3, 0, false);
        edge.is("none is", 2, x.by(0, 0, 0));
    }

    private static void worth(Edge edge) {
        edge.sentence(31, "WORTH: 0 at least");
        int[][] rows = {{5, 5, 0}, {6, 5, 1}, {5, 6, 0}, {0, 9999, 0}, {9999, 0, 9999}};
        for (int[] row : rows) {
            edge.is(row[0] + "-" + row[1], row[2], between("worth " + row[0] + "-" + row[1] + ";").by(0, 0, 1));
            edge.is(row[0] + "-" + row[1] + " without GAS", row[2],
                    between("worth " + row[0] + "-" + row[1] + ";").by(0, 0, 2));
        }
        edge.is("the least of all", 0, between("worth -(" + MOST + ");").by(0, 0, 1));
    }

    private static void withoutAnAct(Edge edge) {
        edge.sentence(31, "without an ACT SIZE * 100");
        for (int size : new int[] {1, 9}) {
            SeamFire x = new SeamFire(2, 2);
            x.house(0, 1, size);
            edge.is("no ACT at all", 100 * size, x.by(0, 0, 1));
            edge.is("without GAS too", 100 * size, x.by(0, 0, 2));
            Due.act(x, "shut 1=1; yes 1=1; whose 1 1=1;");
            x.force(0, 0, 99);
            edge.is("none with such a CLAUSE", 100 * size, x.by(0, 0, 1));
            Due.act(x, "worth 3;");
            edge.is("one without FORCE", 100 * size, x.by(0, 0, 1));
            x.force(1, 5, 5);
            edge.is("one that holds later", 100 * size, x.by(0, 4, 1));
            edge.is("then", 3, x.by(0, 5, 1));
            edge.is("one that held", 100 * size, x.by(0, 6, 1));
        }
    }

    private static void asIfWithoutGas(Edge edge) {
        edge.sentence(31, "WORTH as if its GAS were 0");
        SeamFire x = between("worth 100-gas;");
        edge.is("by the greatest GAS", 88, x.by(0, 0, 1));
        edge.is("as if it were 0", 100, x.by(0, 0, 2));
        x.read(3, 0, true);
        edge.is("by the one that is LET", 97, x.by(0, 0, 1));
        edge.is("as if it were 0", 100, x.by(0, 0, 2));
    }

    /** What a sum comes to; it must not be below 0. */
    private static void is(Edge edge, String sum, int want) {
        edge.is(sum, want, between("worth " + sum + ";").by(0, 0, 2));
    }

    private static void fromTheLeft(Edge edge) {
        edge.sentence(31, "From the left");
        is(edge, "10-3-2", 5);
        is(edge, "10-3+2", 9);
        is(edge, "100/10/5", 2);
        is(edge, "100/10*5", 50);
        is(edge, "7*5/10", 3);
        is(edge, "2+3*4", 14);
        is(edge, "20-2*3-4", 10);
        is(edge, "(20-2)*3-4", 50);
        is(edge, "10--3", 13);
        is(edge, "-3*-4", 12);
        is(edge, "10-(3-2)", 9);
        is(edge, "--7", 7);
        is(edge, "-(3-10)", 7);
        is(edge, "-3+10", 7);
    }

    private static void division(Edge edge) {
        edge.sentence(31, "/ cuts towards 0, by 0 it is 0");
        is(edge, "7/2", 3);
        is(edge, "6/7", 0);
        is(edge, "7/7", 1);
        is(edge, "-(-7/2)", 3);
        is(edge, "-(7/-2)", 3);
        is(edge, "-7/-2", 3);
        is(edge, "10+-7/2", 7);
        is(edge, "10+-1/2", 10);
        is(edge, "5+7/0", 5);
        is(edge, "5+0/0", 5);
        is(edge, "5+-7/0", 5);
        is(edge, "5+7/(week-week)", 5);
        is(edge, "5+7/gas", 5);
        is(edge, "5+7/0*3", 5);
        is(edge, "5+" + MOST + "/0", 5);
        is(edge, "0/7", 0);
    }

    private static void limits(Edge edge) {
        edge.sentence(31, "what is above 1000000000 (below the same less) is that, at each step");
        String near = "9999*9999*10+9999*20";
        is(edge, near, 999999990);
        is(edge, near + "+9", 999999999);
        is(edge, near + "+10", 1000000000);
        is(edge, near + "+11", 1000000000);
        is(edge, near + "+11-1", 999999999);
        is(edge, near + "+10-1", 999999999);
        is(edge, "9999*9999*11-9999", 999990001);
        is(edge, MOST, 1000000000);
        is(edge, MOST + "-1", 999999999);
        is(edge, MOST + "+1-1", 999999999);
        is(edge, MOST + "/2", 500000000);
        is(edge, "(" + MOST + ")*(" + MOST + ")", 1000000000);
        is(edge, "(" + MOST + ")*(" + MOST + ")/9999", 100010);
        is(edge, "-(-(" + MOST + ")*(" + MOST + "))", 1000000000);
        is(edge, "-(-(" + MOST + ")-9999)", 1000000000);
        is(edge, "-(-(" + MOST + ")-9999+1)", 999999999);
        is(edge, "-(-(" + near + "+9)-1)", 1000000000);
        is(edge, "-(-(" + near + "+9)-2+1)", 999999999);
        is(edge, "-(" + MOST + ")/-1", 1000000000);
        is(edge, "--(" + MOST + ")", 1000000000);
    }

    private static void isSo(Edge edge, String either, boolean want) {
        edge.is(either, want ? 2 : 0, between("shut " + either + ";").by(0, 0, 0));
    }

    private static void comparisons(Edge edge) {
        edge.sentence(31, "SUM one of < <= > >= = # (unlike) SUM");
        String[] signs = {"<", "<=", ">", ">=", "=", "#"};
        String[] sums = {"-(" + MOST + ")", "-1", "0", "1", MOST + "-1", MOST};
        for (int a = 0; a < sums.length; a++) {
            for (int b = 0; b < sums.length; b++) {
                boolean[] want = {a < b, a <= b, a > b, a >= b, a == b, a != b};
                for (int i = 0; i < signs.length; i++) {
                    isSo(edge, sums[a] + signs[i] + sums[b], want[i]);
                }
            }
        }
        edge.sentence(31, "EITHER: BOTH {or BOTH}. BOTH: ASKED {and ASKED}. ASKED: not ASKED");
        String[] so = {"1=2", "1=1"};
        for (int bits = 0; bits < 8; bits++) {
            boolean a = (bits & 1) != 0;
            boolean b = (bits & 2) != 0;
            boolean c = (bits & 4) != 0;
            String p = so[bits & 1];
            String q = so[bits >> 1 & 1];
            String r = so[bits >> 2];
            isSo(edge, p + " or " + q + " or " + r, a || b || c);
            isSo(edge, p + " and " + q + " and " + r, a && b && c);
            isSo(edge, p + " or " + q + " and " + r, a || b && c);
            isSo(edge, p + " and " + q + " or " + r, a && b || c);
            isSo(edge, "not " + p + " or " + q + " and not " + r, !a || b && !c);
            isSo(edge, "not not " + p + " and not not not " + q + " or " + r, a && !b || c);
        }
    }

    private static void names(Edge edge) {
        edge.sentence(31, "week: that WEEK; people: of the HOUSE there now");
        SeamFire x = between("worth week*100+people*10+size-cracks; shut people=week;");
        x.house(1, 3, 5);
        edge.is("nobody in WEEK 0", 2, x.by(0, 0, 1));
        x.person(0, 0, 0);
        x.person(0, 0, 5);
        x.person(1, 0, 0);
        edge.is("two in WEEK 98", 9822, x.by(0, 98, 1));
        edge.is("SHUT in WEEK 2", 2, x.by(0, 2, 0));
        x.offer(0, 0, 0);
        x.weeks(1);
        edge.is("one there now, in WEEK 0 too", 12, x.by(0, 0, 1));
        edge.is("SHUT in WEEK 1", 2, x.by(0, 1, 0));
        edge.is("not in WEEK 2", 0, x.by(0, 2, 0));
        edge.sentence(31, "gas of the HOUSE at the beginning of the WEEK");
        SeamFire y = Edge.drawn(999, "c.", "..");
        y.state(0, 5);
        y.house(0, 2, 1);
        Due.act(y, "worth 100+gas; shut gas>7;");
        y.force(0, 0, 99);
        edge.is("WORTH in 4", 100, y.by(0, 4, 1));
        edge.is("WORTH in 5", 108, y.by(0, 5, 1));
        edge.is("SHUT in 4", 0, y.by(0, 4, 0));
        edge.is("SHUT in 5", 2, y.by(0, 5, 0));
        Edge.until(y, 100);
        edge.is("at clock 100 as well", 100, y.by(0, 4, 1));
    }

    private static void asksAlone(Edge edge) {
        edge.sentence(31, "Nothing beyond the answers and state changes described: it asks alone");
        edge.asksAlone("by(1, 40, 0)", o -> o.by(1, 40, 0));
        edge.asksAlone("by(1, 40, 1)", o -> o.by(1, 40, 1));
        edge.asksAlone("by(1, 40, 2)", o -> o.by(1, 40, 2));
    }
}
