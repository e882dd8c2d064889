/** Promise 30: force. */
final class Promise30Force {
    private Promise30Force() {
    }

    static void tests(Edge edge) {
        acts(edge);
        from(edge);
        to(edge);
        both(edge);
        atTheEnd(edge);
        thirty(edge);
        latest(edge);
    }

    private static SeamFire oneAct() {
        SeamFire x = new SeamFire(2, 2);
        x.house(0, 1, 1);
        Due.act(x, "worth 7;");
        return x;
    }

    private static void acts(Edge edge) {
        edge.sentence(30, "A FORCE: its number. NONE for others");
        SeamFire x = new SeamFire(2, 2);
        edge.is("force(0, 0, 0) of no ACT", -1, x.force(0, 0, 0));
        x.act();
        edge.is("force(0, 0, 0)", 0, x.force(0, 0, 0));
        edge.is("force(1, 0, 0) of one ACT", -1, x.force(1, 0, 0));
        x.act();
        edge.is("force(1, 0, 0) of two, no number is left out", 1, x.force(1, 0, 0));
        for (int act : new int[] {-1, 10, Edge.MIN, Edge.MAX}) {
            edge.refusedAlways("force(" + act + ", 60, 99)", -1, o -> o.force(act, 60, 99));
        }
        edge.refused("force(2, 60, 99)", -1, o -> o.force(2, 60, 99), World.BEGUN, World.LATER, World.ENDED);
        edge.refused("force(0, 60, 99)", -1, o -> o.force(0, 60, 99), World.NEW, World.READ);
    }

    private static void from(Edge edge) {
        edge.sentence(30, "an ACT from a WEEK (not ahead of the clock's)");
        for (int clock : new int[] {0, 1, 50, 99}) {
            SeamFire x = oneAct();
            Edge.until(x, clock);
            edge.is("from ahead of " + clock, -1, x.force(0, clock - 1, 99));
            edge.is("from " + clock, 0, x.force(0, clock, 99));
            edge.is("in " + clock, 7, x.by(0, clock, 1));
            edge.is("ahead of it", clock == 0 ? -1 : 100, x.by(0, clock - 1, 1));
        }
        for (int from : new int[] {-1, 100, Edge.MIN, Edge.MAX}) {
            edge.refusedAlways("force(0, " + from + ", 99)", -1, o -> o.force(0, from, 99));
        }
        edge.refused("force(1, 6, 99)", -1, o -> o.force(1, 6, 99), World.LATER);
        edge.is("from 99", 0, oneAct().force(0, 99, 99));
    }

    private static void to(Edge edge) {
        edge.sentence(30, "from a WEEK to one");
        for (int to : new int[] {-1, 100, Edge.MIN, Edge.MAX}) {
            edge.refusedAlways("force(0, 9, " + to + ")", -1, o -> o.force(0, 9, to));
        }
        SeamFire x = oneAct();
        x.weeks(3);
        edge.is("to ahead of from", -1, x.force(0, 9, 8));
        edge.is("to ahead of the clock's", -1, x.force(0, 3, 2));
        edge.is("to like from", 0, x.force(0, 9, 9));
        edge.is("to 99", 1, x.force(0, 50, 99));
        edge.refused("force(0, 9, 8)", -1, o -> o.force(0, 9, 8), World.open());
        edge.refused("force(0, 99, 98)", -1, o -> o.force(0, 99, 98), World.open());
    }

    private static void both(Edge edge) {
        edge.sentence(30, "(both)");
        int[][] spans = {{0, 0}, {0, 1}, {5, 9}, {98, 99}, {99, 99}, {0, 99}};
        for (int[] span : spans) {
            SeamFire x = oneAct();
            x.force(0, span[0], span[1]);
            for (int week : new int[] {span[0] - 1, span[0], span[1], span[1] + 1}) {
                boolean isWeek = week >= 0 && week <= 99;
                boolean holds = week >= span[0] && week <= span[1];
                edge.is("in " + week + " of " + span[0] + " to " + span[1], isWeek ? holds ? 7 : 100 : -1,
                        x.by(0, week, 1));
            }
        }
    }

    private static void atTheEnd(Edge edge) {
        edge.sentence(30, "not ahead of the clock's: at 100 there is no WEEK");
        SeamFire x = oneAct();
        Edge.until(x, 100);
        edge.is("force(0, 99, 99)", -1, x.force(0, 99, 99));
        edge.is("force(0, 100, 100)", -1, x.force(0, 100, 100));
        edge.refused("force(0, 99, 99)", -1, o -> o.force(0, 99, 99), World.ENDED);
        edge.refused("force(0, 100, 100)", -1, o -> o.force(0, 100, 100), World.ENDED);
    }

    private static void thirty(Edge edge) {
        edge.sentence(30, "NONE if there are 30");
        SeamFire x = oneAct();
        Due.act(x, "worth 8;");
        for (int i = 0; i < 30; i++) {
            edge.is("force", i, x.force(i == 29 ? 1 : 0, 0, 99));
        }
        edge.is("the 30th holds", 8, x.by(0, 0, 1));
        edge.is("the 31st", -1, x.force(0, 0, 99));
        edge.is("about(11)", 30, x.about(11));
        edge.is("it doesn't hold", 8, x.by(0, 0, 1));
        edge.refused("force(0, 9, 99)", -1, o -> o.force(0, 9, 99), World.FULL);
        edge.refused("force(9, 99, 99)", -1, o -> o.force(9, 99, 99), World.FULL);
    }

    private static void latest(Edge edge) {
        edge.sentence(30, "of FORCES that hold then, whose ACT has such a CLAUSE, the one told latest");
        SeamFire x = oneAct();
        Due.act(x, "whose 4 1=1;");
        Due.act(x, "worth 9; shut 1=1;");
        edge.is("none holds", 100, x.by(0, 0, 1));
        x.force(2, 10, 20);
        x.force(0, 15, 30);
        x.force(1, 0, 99);
        int[] weeks = {9, 10, 14, 15, 20, 21, 30, 31};
        int[] worth = {100, 9, 9, 7, 7, 7, 7, 100};
        int[] shut = {0, 2, 2, 2, 2, 0, 0, 0};
        for (int i = 0; i < weeks.length; i++) {
            edge.is("WORTH in " + weeks[i], worth[i], x.by(0, weeks[i], 1));
            edge.is("SHUT in " + weeks[i], shut[i], x.by(0, weeks[i], 0));
            edge.is("OWNER in " + weeks[i], 4, x.whose(weeks[i]));
        }
        x.force(2, 17, 17);
        edge.is("told later for one WEEK", 9, x.by(0, 17, 1));
        edge.is("not the next", 7, x.by(0, 18, 1));
    }
}
