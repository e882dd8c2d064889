/** Promise 37: back. */
final class Promise37Back {
    private Promise37Back() {
    }

    static void tests(Edge edge) {
        first(edge);
        clocks(edge);
        itStays(edge);
        butTheTape(edge);
        butTheFault(edge);
        allIsSoAgain(edge);
        roomAgain(edge);
        offersAgain(edge);
        actsAgain(edge);
    }

    private static void first(Edge edge) {
        edge.sentence(37, "BACK to THE IMAGE: ahead of any image() it is the new object");
        SeamFire x = new SeamFire(2, 2);
        edge.is("back() at once", 0, x.back());
        Edge.until(x, 100);
        edge.is("back() from 100", 0, x.back());
        edge.yes("CELLS may be told again", x.cell(0, 1, 5));
    }

    private static void clocks(Edge edge) {
        edge.sentence(37, "BACK to THE IMAGE: the clock");
        for (int clock : new int[] {0, 1, 50, 99, 100}) {
            SeamFire x = new SeamFire(2, 2);
            Edge.until(x, clock);
            x.image();
            edge.is("back() at once", clock, x.back());
            Edge.until(x, 100);
            edge.is("back() from 100", clock, x.back());
            edge.is("about(0)", clock, x.about(0));
            edge.is("weeks(1)", clock == 100 ? -1 : clock + 1, x.weeks(1));
        }
    }

    private static void itStays(Edge edge) {
        edge.sentence(37, "(it stays)");
        SeamFire x = Edge.drawn(50, "oc", "..");
        x.pour(0, 3);
        x.image();
        for (int i = 0; i < 4; i++) {
            x.pour(0, 5);
            x.hole(i);
            x.weeks(1);
            edge.is("back()", 0, x.back());
            edge.is("fill(0)", 3, x.fill(0));
            edge.is("HOLES", 0, x.about(3));
        }
    }

    private static void butTheTape(Edge edge) {
        edge.sentence(37, "all as it is, but the tape");
        SeamFire x = new SeamFire(2, 2);
        Due.put(x, "worth 1;");
        x.image();
        Due.put(x, "whose 5 1=1;");
        x.back();
        edge.is("about(13)", 12, x.about(13));
        edge.is("act()", 0, x.act());
        x.force(0, 0, 99);
        edge.is("the latest text", 5, x.whose(0));
        x.back();
        edge.is("an ACT since", 0, x.about(10));
        edge.is("the tape is empty", 0, x.about(13));
        for (int i = 0; i < 15; i++) {
            x.feed(0, 0, 0, 0, 0);
        }
        x.back();
        edge.is("a full tape stays full", -1, x.feed(0, 0, 0, 0, 0));
        edge.is("about(13)", 300, x.about(13));
    }

    private static void butTheFault(Edge edge) {
        edge.sentence(37, "all as it is, but the latest FAULT");
        SeamFire x = new SeamFire(2, 2);
        x.image();
        Due.act(x, "worth kin;");
        x.back();
        edge.is("fault(0)", 5, x.fault(0));
        edge.is("fault(1)", 6, x.fault(1));
        x.image();
        x.act();
        x.back();
        edge.is("fault(0) of a good one since", 0, x.fault(0));
        edge.is("fault(1)", -1, x.fault(1));
        edge.is("which is no ACT any more", 0, x.about(10));
    }

    private static void allIsSoAgain(Edge edge) {
        edge.sentence(37, "BACK: all is so again");
        for (World world : World.values()) {
            Edge.Calls then = x -> {
                world.make(x);
                x.image();
            };
            edge.changesNothing(world.w, world.h, then, "back() at once in " + world, SeamFire::back);
            edge.changesNothing(world.w, world.h, then, "weeks and back() in " + world, x -> {
                x.weeks(1);
                x.weeks(20);
                return x.back();
            });
            edge.changesNothing(world.w, world.h, then, "asking, weeks and back() in " + world, x -> {
                x.lost(0, 99);
                x.best(99999, Math.min(99, x.about(0)), 0);
                x.hole(0);
                x.plug(0);
                x.rules(1, 1, 1);
                x.lost(0, 99);
                x.best(99999, Math.min(99, x.about(0)), 0);
                return x.back();
            });
        }
    }

    private static void roomAgain(Edge edge) {
        edge.sentence(37, "BACK: all is so again, as much as was full since");
        SeamFire x = Edge.drawn(50, "oc", "..");
        x.state(1, 0);
        x.image();
        for (int round = 0; round < 2; round++) {
            for (int i = 0; i < 20; i++) {
                x.hole(0);
                x.house(0, 1, 1);
            }
            for (int i = 0; i < 10; i++) {
                x.trench(0, 0, 1, 1);
                x.act();
            }
            for (int i = 0; i < 7; i++) {
                x.state(1, 0);
                x.place(0, 1);
            }
            for (int i = 0; i < 41; i++) {
                x.pour(0, 1);
            }
            edge.is("full: HOLES", -1, x.hole(0));
            edge.is("full: HOUSES", -1, x.house(0, 1, 1));
            edge.is("full: TRENCHES", -1, x.trench(0, 0, 1, 1));
            edge.is("full: ACTS", -1, x.act());
            edge.is("full: STATES", -1, x.state(1, 0));
            edge.is("full: PLACES", -1, x.place(0, 1));
            edge.is("full: pours", -1, x.pour(0, 1));
            x.back();
        }
        edge.is("HOLES", 0, x.hole(0));
        edge.is("HOUSES", 0, x.house(0, 1, 1));
        edge.is("TRENCHES", 0, x.trench(0, 0, 1, 1));
        edge.is("ACTS", 0, x.act());
        edge.is("STATES", 1, x.state(1, 0));
        edge.is("PLACES", 0, x.place(0, 1));
        edge.is("pours", 0, x.pour(0, 1));
        edge.is("fill(0)", 1, x.fill(0));
    }

    private static void offersAgain(Edge edge) {
        edge.sentence(37, "BACK: all is so again: OFFERS, PULL and HEARD");
        SeamFire x = new SeamFire(2, 2);
        x.house(0, 1, 1);
        x.person(0, 1, 100);
        x.person(0, 1, 0);
        x.offer(0, 0, 2);
        x.pull(99);
        x.image();
        x.offer(0, 0, 50);
        x.back();
        x.weeks(3);
        edge.is("by a PULL of 99 it stays", -1, x.gone(0));
        x.pull(100);
        x.weeks(1);
        edge.is("the OFFER was up to WEEK 2", -1, x.gone(0));
        x.back();
        x.pull(100);
        x.back();
        x.weeks(1);
        edge.is("PULL is 99 again", -1, x.gone(0));
        x.back();
        x.offer(0, 1, 2);
        x.back();
        x.weeks(1);
        edge.is("PRICE is 0 again", -1, x.gone(0));
        x.back();
        x.hears(0, 1);
        x.back();
        x.weeks(1);
        edge.is("HEARD is 0 again", -1, x.gone(0));
        x.back();
        x.pull(100);
        x.weeks(1);
        edge.is("with all that it goes", 0, x.gone(0));
    }

    private static void actsAgain(Edge edge) {
        edge.sentence(37, "BACK: all is so again: ACTS and FORCES");
        SeamFire x = new SeamFire(2, 2);
        x.house(0, 1, 1);
        Due.act(x, "worth 7;");
        x.force(0, 0, 99);
        x.image();
        for (int worth = 8; worth <= 10; worth++) {
            edge.is("another ACT", 1, Due.act(x, "worth " + worth + ";"));
            edge.is("another FORCE", 1, x.force(1, 0, 99));
            edge.is("WORTH", worth, x.by(0, 0, 1));
            x.back();
            edge.is("WORTH of the image", 7, x.by(0, 0, 1));
            edge.is("ACTS", 1, x.about(10));
            edge.is("FORCES", 1, x.about(11));
            edge.is("no FORCE of the other", -1, x.force(1, 0, 99));
        }
        edge.is("a FAULT in its place", -1, Due.act(x, "worth 3; worth 4;"));
        edge.is("WORTH", 7, x.by(0, 0, 1));
    }
}
