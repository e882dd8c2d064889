/** Promises 34 to 38: places for walls, the best of them, the image, and counts. */
public final class WallTest {
    private static final Due due = new Due("WallTest");

    public static void main(String[] args) {
        place();
        best();
        bestOfLikes();
        bestByMany();
        bestTimes();
        bestInBetween();
        bestAskedAgain();
        bestWithCooling();
        bestWrong();
        imageOfTheSeam();
        imageOfTheTown();
        imageOfTheLaw();
        about();
        due.end();
    }

    private static void place() {
        SeamFire x = new SeamFire(3, 2);
        x.cell(0, 3, 0);
        x.cell(1, 1, 5);
        due.is("rock", -1, x.place(2, 5));
        due.is("coal", -1, x.place(1, 5));
        due.is("cell -1", -1, x.place(-1, 5));
        due.is("cell 6", -1, x.place(6, 5));
        due.is("cost -1", -1, x.place(0, -1));
        due.is("cost 10000", -1, x.place(0, 10000));
        due.is("least", 0, x.place(0, 0));
        due.is("greatest", 1, x.place(0, 9999));
        for (int i = 2; i < 6; i++) {
            due.is("place", i, x.place(0, 1));
        }
        due.is("the 7th", -1, x.place(0, 1));
        due.is("how many", 6, x.about(12));
    }

    /** Coal 0 burns; 1 and 3 stand between rooms 2, 4, 5, with a hole far away. */
    private static SeamFire seam() {
        SeamFire x = new SeamFire(3, 2);
        x.cell(0, 1, 500);
        x.cell(1, 1, 500);
        x.cell(3, 1, 500);
        x.cell(2, 3, 0);
        x.cell(4, 3, 0);
        x.cell(5, 3, 0);
        x.rules(1, 10, 9);
        x.state(0, 0);
        x.hole(5);
        return x;
    }

    private static void asks(SeamFire x, int coins, int week, int set, int cost, int lost) {
        due.is("the set for " + coins, set, x.best(coins, week, 0));
        due.is("its cost", cost, x.best(coins, week, 1));
        due.is("the greatest lost", lost, x.best(coins, week, 2));
    }

    private static void best() {
        SeamFire x = seam();
        asks(x, 99999, 5, 0, 0, 3);
        x.place(4, 100);
        asks(x, 100, 5, 1, 100, 2);
        asks(x, 99, 5, 0, 0, 3);
        x.place(2, 50);
        asks(x, 149, 5, 1, 100, 2);
        asks(x, 150, 5, 3, 150, 1);
        x.place(5, 200);
        asks(x, 99999, 5, 3, 150, 1);
        asks(x, 0, 5, 0, 0, 3);
        asks(x, 99999, 0, 0, 0, 1);
        due.is("nothing is changed", 0, x.fill(4));
        due.is("nor lost", 3, x.lost(0, 5));
    }

    private static void bestOfLikes() {
        SeamFire x = seam();
        x.place(4, 70);
        x.place(4, 30);
        asks(x, 99999, 5, 2, 30, 2);
        x.place(4, 30);
        asks(x, 99999, 5, 2, 30, 2);
        x.place(4, 0);
        asks(x, 99999, 5, 8, 0, 2);
        x.place(2, 0);
        x.place(2, 0);
        asks(x, 0, 5, 24, 0, 1);
    }

    private static void bestByMany() {
        SeamFire x = seam();
        x.place(4, 10);
        x.place(2, 10);
        x.state(3, 0);
        asks(x, 10, 1, 1, 10, 2);
        asks(x, 10, 9, 1, 10, 2);
        asks(x, 9, 9, 0, 0, 3);
        asks(x, 20, 9, 3, 20, 1);
        x.weeks(1);
        x.read(3, 0, true);
        asks(x, 99999, 1, 0, 0, 1);
        x.read(3, 0, false);
        due.is("none is let", -1, x.best(99999, 5, 0));
    }

    private static void bestTimes() {
        SeamFire x = seam();
        x.place(4, 10);
        x.place(2, 10);
        asks(x, 99999, 1, 3, 20, 1);
        x.weeks(1);
        asks(x, 99999, 2, 0, 0, 3);
        SeamFire y = seam();
        y.place(4, 10);
        y.place(2, 10);
        y.pour(4, 40);
        due.is("sand counts from the next week on", 3, y.best(0, 1, 2));
        asks(y, 99999, 1, 3, 20, 1);
        y.trench(4, 0, 2, 8);
        asks(y, 99999, 1, 2, 10, 1);
    }

    /** Walls that come when heat has grown, and ahead of a state's week. */
    private static void bestInBetween() {
        SeamFire x = seam();
        x.rules(3, 10, 9);
        x.place(4, 10);
        x.place(2, 10);
        x.weeks(2);
        asks(x, 99999, 2, 0, 0, 1);
        asks(x, 99999, 3, 3, 20, 1);
        due.is("without", 3, x.best(0, 3, 2));
        asks(x, 99999, 30, 3, 20, 1);
        SeamFire y = new SeamFire(3, 2);
        y.cell(0, 1, 20);
        y.cell(1, 1, 500);
        y.cell(2, 3, 0);
        y.rules(2, 10, 9);
        y.hole(2);
        y.state(0, 3);
        y.place(2, 5);
        y.weeks(1);
        asks(y, 5, 2, 0, 0, 0);
        asks(y, 5, 5, 1, 5, 1);
        due.is("without", 2, y.best(4, 5, 2));
        y.weeks(3);
        asks(y, 5, 5, 1, 5, 1);
        y.weeks(1);
        asks(y, 5, 6, 0, 0, 2);
    }

    private static void bestAskedAgain() {
        SeamFire x = seam();
        x.place(4, 10);
        x.place(2, 10);
        asks(x, 50, 5, 3, 20, 1);
        due.is("a hole feeds 2", 2, x.fed(0, 5, 0));
        asks(x, 49, 5, 3, 20, 1);
        asks(x, 19, 5, 1, 10, 2);
        asks(x, 19, 0, 0, 0, 1);
        x.state(1, 0);
        asks(x, 19, 0, 0, 0, 1);
        asks(x, 50, 5, 3, 20, 1);
        x.weeks(1);
        asks(x, 50, 5, 0, 0, 3);
        x.read(0, 0, false);
        asks(x, 50, 5, 0, 0, 1);
        x.back();
        due.is("no state there", -1, x.best(50, 5, 0));
        SeamFire y = seam();
        asks(y, 0, 5, 0, 0, 3);
        y.image();
        y.plug(0);
        y.pour(4, 60);
        asks(y, 0, 5, 0, 0, 1);
        y.back();
        asks(y, 0, 5, 0, 0, 3);
        y.plug(0);
        asks(y, 0, 5, 0, 0, 1);
        y.back();
        due.is("asked of the image", 3, y.best(0, 5, 2));
        SeamFire z = seam();
        z.cell(5, 1, 50);
        z.plug(0);
        z.state(5, 9);
        asks(z, 0, 0, 0, 0, 1);
        z.cell(1, 1, 1);
        z.hole(0);
        z.rules(1, 1, 9);
        z.weeks(1);
        z.read(0, 0, false);
        asks(z, 0, 3, 0, 0, 0);
        z.state(3, 1);
        due.is("a state told since", 1, z.best(0, 3, 2) > 0 ? 1 : 0);
        SeamFire v = seam();
        v.state(3, 0);
        v.weeks(1);
        v.read(3, 0, true);
        due.is("nothing was asked ahead of it", 1, v.best(0, 1, 2));
    }

    /** Heat that is there at the clock's week goes on cooling by a trial, too. */
    private static void bestWithCooling() {
        SeamFire x = new SeamFire(3, 2);
        for (int c = 0; c < 6; c++) {
            x.cell(c, 1, 900);
        }
        x.cell(0, 1, 60);
        x.rules(3, 10, 9);
        x.state(0, 0);
        x.hole(0);
        x.hole(3);
        x.hole(4);
        x.hole(1);
        x.weeks(2);
        x.plug(3);
        asks(x, 0, 8, 0, 0, 3);
        due.is("lost", 3, x.lost(0, 8));
        asks(x, 0, 9, 0, 0, 4);
        due.is("lost a week later", 4, x.lost(0, 9));
    }

    private static void bestWrong() {
        SeamFire x = new SeamFire(3, 2);
        x.cell(0, 1, 500);
        due.is("no state", -1, x.best(0, 0, 0));
        x.state(0, 0);
        due.is("no places", 0, x.best(0, 0, 0));
        due.is("coins -1", -1, x.best(-1, 0, 0));
        due.is("coins 100000", -1, x.best(100000, 0, 0));
        due.is("coins 99999", 0, x.best(99999, 0, 0));
        due.is("what -1", -1, x.best(0, 0, -1));
        due.is("what 3", -1, x.best(0, 0, 3));
        due.is("30 later", 1, x.best(0, 30, 2));
        due.is("31 later", -1, x.best(0, 31, 2));
        x.weeks(5);
        due.is("ahead of the clock's week", -1, x.best(0, 4, 2));
        due.is("the clock's", 1, x.best(0, 5, 2));
        for (int i = 0; i < 5; i++) {
            x.weeks(18);
        }
        due.is("99", 1, x.best(0, 99, 2));
        due.is("100", -1, x.best(0, 100, 2));
        x.weeks(5);
        due.is("at 100", -1, x.best(0, 99, 2));
        due.is("100 at 100", -1, x.best(0, 100, 2));
    }

    private static void imageOfTheSeam() {
        SeamFire x = seam();
        x.weeks(2);
        x.place(4, 10);
        x.pour(4, 5);
        x.trench(0, 0, 1, 1);
        x.read(0, 0, true);
        due.is("image", 2, x.image());
        int lost = x.lost(0, 9);
        x.rules(9, 1, 0);
        x.plug(0);
        x.hole(2);
        x.pour(4, 50);
        x.trench(3, 0, 3, 1);
        x.state(3, 0);
        x.read(0, 0, false);
        x.place(2, 10);
        x.weeks(9);
        due.is("back", 2, x.back());
        due.is("clock", 2, x.about(0));
        due.is("holes", 1, x.about(3));
        due.is("trenches", 1, x.about(4));
        due.is("states", 1, x.about(5));
        due.is("readings", 1, x.about(6));
        due.is("places", 1, x.about(12));
        due.is("fill", 5, x.fill(4));
        due.is("fill", 0, x.fill(5));
        due.is("let", 1, x.let(0, 2));
        due.is("lost", lost, x.lost(0, 9));
        due.is("tons", 495, x.burns(0, 1, 0, 1));
        due.yes("the hole is open", x.plug(0));
        due.is("back again", 2, x.back());
        due.yes("the image stays", x.plug(0));
        for (int i = 1; i < 40; i++) {
            due.is("39 more", 0, x.pour(2, 1));
        }
        due.is("40 were", -1, x.pour(2, 1));
        x.back();
        due.is("one was", 0, x.pour(2, 1));
        x.image();
        x.weeks(1);
        due.is("the newer image", 2, x.back());
        due.is("its fill", 1, x.fill(2));
        imageAtTheBeginning();
    }

    private static void imageAtTheBeginning() {
        SeamFire x = seam();
        x.pour(2, 20);
        x.image();
        x.cell(0, 4, 0);
        x.cell(1, 1, 7);
        x.cell(3, 3, 0);
        x.cell(4, 1, 3);
        x.pour(5, 30);
        x.hole(0);
        x.trench(3, 0, 1, 1);
        x.house(0, 1, 1);
        x.offer(0, 5, 5);
        x.lost(0, 9);
        x.weeks(1);
        due.is("back", 0, x.back());
        due.is("coal burns", 1, x.burns(0, 0, 0, 0));
        due.is("its air comes not from a hole", 0, x.burns(0, 0, 0, 3));
        due.is("tons", 500, x.burns(0, 0, 1, 1));
        due.is("coal again", 500, x.burns(0, 0, 3, 1));
        due.is("a room again", 1, x.burns(0, 0, 4, 3));
        due.is("not full", 1, x.burns(0, 5, 4, 3));
        due.is("no coal", 0, x.burns(0, 0, 4, 1));
        due.is("a place", 0, x.place(4, 1));
        due.is("no place", -1, x.place(3, 1));
        due.is("lost", 3, x.lost(0, 1));
        due.is("the image's own sand", 20, x.fill(2));
        x.house(0, 1, 1);
        x.person(0, 1, 5);
        x.weeks(1);
        due.is("no offer", -1, x.gone(0));
        x.offer(0, 5, 1);
        x.image();
        x.offer(0, 5, 9);
        x.weeks(1);
        x.back();
        x.offer(0, 0, 1);
        x.image();
        x.offer(0, 5, 50);
        x.back();
        x.weeks(1);
        due.is("for 0 nobody goes", -1, x.gone(0));
        x.image();
        x.offer(0, 5, 60);
        x.back();
        x.weeks(1);
        due.is("the offer was to week 1", -1, x.gone(0));
    }

    private static void imageOfTheTown() {
        SeamFire x = new SeamFire(2, 2);
        x.house(0, 1, 2);
        x.person(0, 1, 300);
        x.person(0, 1, 301);
        x.hears(1, 1);
        x.pull(7);
        x.offer(0, 200, 50);
        x.image();
        x.house(1, 1, 9);
        x.person(1, 1, 1);
        x.hears(0, 9);
        x.pull(900);
        x.offer(0, 9999, 50);
        x.weeks(1);
        due.is("both went", 2, x.about(9));
        due.is("back", 0, x.back());
        due.is("nobody went", 0, x.about(9));
        due.is("gone", -1, x.gone(0));
        due.is("houses", 1, x.about(7));
        due.is("people", 2, x.about(8));
        x.weeks(1);
        due.is("200 and nothing heard", -1, x.gone(0));
        due.is("200 and 100", -1, x.gone(1));
        x.hears(0, 1);
        x.weeks(1);
        due.is("went", 1, x.gone(0));
        due.is("by a pull of 7", 1, x.gone(1));
        x.person(0, 1, 215);
        x.person(0, 2, 200);
        x.weeks(1);
        due.is("by no more than 7", -1, x.gone(2));
        due.is("the offer stands", 2, x.gone(3));
        x.image();
        x.back();
        due.is("those who went, too", 3, x.about(9));
    }

    private static void imageOfTheLaw() {
        SeamFire x = new SeamFire(2, 2);
        x.house(0, 1, 2);
        due.is("act", 0, Due.act(x, "worth 7;"));
        x.force(0, 0, 99);
        x.image();
        due.is("act", 1, Due.act(x, "worth 8;"));
        x.force(1, 0, 99);
        due.is("8", 8, x.by(0, 0, 1));
        Due.put(x, "worth 99;");
        x.back();
        due.is("acts", 1, x.about(10));
        due.is("forces", 1, x.about(11));
        due.is("7", 7, x.by(0, 0, 1));
        due.is("the tape isn't in the image", 9, x.about(13));
        due.is("it is read", 1, x.act());
        x.force(1, 0, 99);
        due.is("99", 99, x.by(0, 0, 1));
        x.back();
        due.is("7 still", 7, x.by(0, 0, 1));
        due.is("a fault writes nothing", -1, Due.act(x, "worth 1; worth 2;"));
        due.is("7 yet", 7, x.by(0, 0, 1));
        Due.put(x, "worth 5;");
        x.image();
        x.end(0);
        x.back();
        due.is("the tape stays as it is", 0, x.about(13));
    }

    private static void about() {
        SeamFire x = new SeamFire(3, 4);
        x.cell(0, 1, 5);
        x.cell(1, 3, 0);
        x.weeks(1);
        for (int i = 0; i < 12; i++) {
            x.hole(0);
            x.read(0, 0, i < 11);
        }
        for (int i = 0; i < 4; i++) {
            x.trench(11, 0, 1, 1);
            x.place(1, 1);
        }
        for (int i = 0; i < 5; i++) {
            x.state(0, 0);
            x.house(0, 1, 1);
            x.house(0, 1, 1);
        }
        for (int i = 0; i < 13; i++) {
            x.person(0, 1, i < 8 ? 0 : 1);
        }
        x.offer(0, 0, 1);
        for (int i = 0; i < 6; i++) {
            Due.act(x, "");
            x.force(i, 1, 1);
        }
        x.force(0, 1, 1);
        x.weeks(1);
        x.feed(0, 0, 0, 0, 0);
        x.end(17);
        int[] want = {2, 3, 4, 12, 4, 5, 12, 10, 13, 8, 6, 7, 4, 17};
        for (int i = 0; i < want.length; i++) {
            due.is("about(" + i + ")", want[i], x.about(i));
        }
        due.is("about(-1)", -1, x.about(-1));
        due.is("about(14)", -1, x.about(14));
        due.is("NONE", -1, SeamFire.NONE);
    }
}
