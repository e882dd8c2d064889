/** Promise 28: act. */
final class Promise28Act {
    private Promise28Act() {
    }

    static void tests(Edge edge) {
        empty(edge);
        longest(edge);
        emptyThen(edge);
        fault(edge);
        ten(edge);
        tenthIsFaulty(edge);
    }

    private static void empty(Edge edge) {
        edge.sentence(28, "The tape is an ACT: its number: {CLAUSE} may be none");
        SeamFire x = new SeamFire(2, 2);
        edge.is("of an empty tape", 0, x.act());
        edge.is("its FAULT", 0, x.fault(0));
        edge.is("of blanks", 1, Due.act(x, " \n \n"));
        edge.is("of 300 blanks", 2, Due.act(x, " ".repeat(300)));
        edge.is("about(10)", 3, x.about(10));
        edge.is("it may have FORCE", 0, x.force(0, 0, 99));
        x.house(0, 1, 3);
        edge.is("and says nothing", 300, x.by(0, 0, 1));
    }

    private static void longest(Edge edge) {
        edge.sentence(28, "texts of up to 300 bytes");
        SeamFire x = new SeamFire(2, 2);
        x.house(0, 1, 1);
        edge.is("a SUM of 147", 0, Due.act(x, "worth " + "1+".repeat(146) + "1;"));
        x.force(0, 0, 99);
        edge.is("WORTH", 147, x.by(0, 0, 1));
        edge.is("a SUM to the last byte", 1, Due.act(x, "worth  " + "1+".repeat(145) + "9;"));
        x.force(1, 0, 99);
        edge.is("WORTH", 154, x.by(0, 0, 1));
        String either = "yes " + "1=2 or ".repeat(41) + "1=1     ;";
        edge.is("an EITHER of 42", 2, Due.act(x, either));
        x.force(2, 0, 99);
        x.person(0, 0, 0);
        edge.is("its length", 300, either.length());
        edge.is("it is so", 1, x.vote(0, 0));
        edge.is("one NUMBER of 293 digits", 3, Due.act(x, "worth " + "0".repeat(292) + "7;"));
        x.force(3, 0, 99);
        edge.is("WORTH", 7, x.by(0, 0, 1));
    }

    private static void emptyThen(Edge edge) {
        edge.sentence(28, "The tape (empty then)");
        SeamFire x = new SeamFire(2, 2);
        Due.put(x, "worth 1;");
        edge.is("about(13)", 8, x.about(13));
        edge.is("act()", 0, x.act());
        edge.is("about(13) then", 0, x.about(13));
        edge.is("end(1) then", -1, x.end(1));
    }

    private static void fault(Edge edge) {
        edge.sentence(28, "NONE: it has a FAULT");
        SeamFire x = new SeamFire(2, 2);
        x.house(0, 1, 1);
        edge.is("act()", -1, Due.act(x, "worth 5; worth 6;"));
        edge.is("about(10)", 0, x.about(10));
        edge.is("the tape is empty then", 0, x.about(13));
        edge.is("no FORCE of it", -1, x.force(0, 0, 99));
        edge.is("the next has its number", 0, Due.act(x, "whose 1 1=1;"));
        x.force(0, 0, 99);
        edge.is("nothing of it is left", 100, x.by(0, 0, 1));
        edge.is("another FAULT", -1, Due.act(x, "whose 2 1=1; whose"));
        edge.is("leaves the ACT ahead of it", 1, x.whose(0));
        for (int i = 0; i < 4; i++) {
            edge.is("long ones", -1, Due.act(x, "worth " + "1+".repeat(140) + "1; worth 1;"));
        }
        String twenty = "whose 1 week=3;".repeat(20);
        edge.is("then a long good one", 1, Due.act(x, twenty));
        x.force(1, 0, 99);
        edge.is("is whole", 1, x.whose(3));
        edge.is("and says no more", -1, x.whose(4));
        for (World world : World.open()) {
            edge.same("behind a FAULT in " + world, Look.at(4, 3, o -> {
                world.make(o);
                Due.act(o, "?");
            }), Look.at(4, 3, o -> {
                world.make(o);
                Due.act(o, "worth 3; yes 1=1; shut 1=1; whose 9 1=1; worth 4;");
                Due.act(o, "?");
            }));
        }
    }

    private static void ten(Edge edge) {
        edge.sentence(28, "NONE: (the tape stays) there are 10");
        SeamFire x = new SeamFire(2, 2);
        x.house(0, 1, 1);
        for (int i = 0; i < 10; i++) {
            edge.is("act()", i, Due.act(x, "worth " + (50 + i) + ";"));
        }
        Due.put(x, "worth 1;");
        edge.is("the 11th", -1, x.act());
        edge.is("the tape stays", 8, x.about(13));
        edge.is("about(10)", 10, x.about(10));
        edge.is("it wasn't read: FAULT 0", 0, x.fault(0));
        x.end(0);
        edge.is("an empty one neither", -1, x.act());
        for (int i = 0; i < 10; i++) {
            x.force(i, i, i);
            edge.is("each is as it was", 50 + i, x.by(0, i, 1));
        }
        edge.is("no FORCE of an 11th", -1, x.force(10, 0, 99));
        edge.refused("act()", -1, SeamFire::act, World.FULL);
        edge.refusedAfter(4, 3, o -> {
            World.FULL.make(o);
            Due.put(o, "?");
        }, "act() of a FAULT", -1, SeamFire::act);
    }

    private static void tenthIsFaulty(Edge edge) {
        edge.sentence(28, "ACTS 0 .. 9: a text with a FAULT is none");
        SeamFire x = new SeamFire(2, 2);
        for (int i = 0; i < 9; i++) {
            x.act();
        }
        edge.is("a FAULT behind nine", -1, Due.act(x, "worth"));
        edge.is("its FAULT", 1, x.fault(0));
        edge.is("about(10)", 9, x.about(10));
        edge.is("the tenth", 9, Due.act(x, "worth 1;"));
        edge.is("its FAULT", 0, x.fault(0));
        Due.put(x, "worth");
        edge.is("the 11th", -1, x.act());
        edge.is("of the latest that was read", 0, x.fault(0));
    }
}
