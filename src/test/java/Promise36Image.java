/** Promise 36: image. */
final class Promise36Image {
    private Promise36Image() {
    }

    static void tests(Edge edge) {
        clocks(edge);
        changesNothing(edge);
        takesThePlace(edge);
        allAsItIs(edge);
    }

    private static void clocks(Edge edge) {
        edge.sentence(36, "THE IMAGE is as all is now: the clock");
        for (int clock : new int[] {0, 1, 50, 99, 100}) {
            SeamFire x = new SeamFire(2, 2);
            Edge.until(x, clock);
            edge.is("image() at " + clock, clock, x.image());
            edge.is("the clock stays", clock, x.about(0));
            edge.is("back()", clock, x.back());
        }
    }

    /** But for what back() would bring, all answers as ahead of it; here the image was like that already. */
    private static void changesNothing(Edge edge) {
        edge.sentence(36, "THE IMAGE is as all is now: all stays as it is");
        for (World world : World.values()) {
            edge.changesNothing(world.w, world.h, x -> {
                world.make(x);
                x.image();
            }, "image() in " + world, SeamFire::image);
        }
    }

    private static void takesThePlace(Edge edge) {
        edge.sentence(36, "THE IMAGE: the latest alone");
        SeamFire x = new SeamFire(2, 2);
        x.hole(0);
        x.image();
        x.hole(1);
        x.weeks(3);
        x.image();
        x.hole(2);
        x.weeks(3);
        edge.is("back()", 3, x.back());
        edge.is("HOLES", 2, x.about(3));
        edge.is("back() once more", 3, x.back());
        edge.is("HOLES", 2, x.about(3));
    }

    /** All that may be told behind the image leaves no trace in it, full rows too. */
    private static void allAsItIs(Edge edge) {
        edge.sentence(36, "AN IMAGE: all as it is");
        for (World world : new World[] {World.BEGUN, World.LATER, World.READ}) {
            edge.same("behind an image, changes and back() in " + world, Look.at(4, 3, x -> {
                world.make(x);
                x.image();
                x.end(0);
                x.act();
                x.back();
            }), Look.at(4, 3, x -> {
                world.make(x);
                x.image();
                changeAll(x);
                x.end(0);
                x.act();
                x.back();
            }));
        }
    }

    private static void changeAll(SeamFire x) {
        x.cell(0, 3, 0);
        x.cell(1, 1, 5);
        x.rules(9, 90, 1);
        x.plug(0);
        x.plug(2);
        x.hole(3);
        x.pour(2, 100);
        x.pour(9, 100);
        x.trench(0, 0, 4, 1);
        x.state(10, 0);
        x.read(0, 0, true);
        x.read(10, 0, true);
        x.house(3, 3, 3);
        x.person(0, 1, 1);
        x.hears(0, 9);
        x.hears(5, 9);
        x.pull(999);
        x.offer(0, 9999, 90);
        x.offer(1, 9999, 90);
        x.offer(2, 9999, 90);
        Due.act(x, "worth 77; shut 1=1; yes 1=1; whose 9 1=1;");
        x.force(0, 30, 99);
        x.force(x.about(10) - 1, 10, 99);
        x.place(6, 1);
        x.weeks(5);
        x.hole(0);
        x.plug(3);
        x.best(99999, x.about(0) + 1, 0);
        x.lost(0, 99);
    }
}
