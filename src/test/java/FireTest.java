/** Promises 9 to 13: states, how it burns by them, what is lost, fed, and cut in time. */
public final class FireTest {
    private static final Due due = new Due("FireTest");

    public static void main(String[] args) {
        state();
        burnsDown();
        heat();
        airThroughRooms();
        airOfBurntCells();
        airAndCuts();
        burnsWrong();
        lost();
        fed();
        inTime();
        inTimeByMany();
        due.end();
    }

    private static SeamFire seam(int w, int h, int kind, int tons) {
        SeamFire x = new SeamFire(w, h);
        for (int c = 0; c < w * h; c++) {
            x.cell(c, kind, tons);
        }
        return x;
    }

    private static void state() {
        SeamFire x = new SeamFire(3, 2);
        x.cell(0, 1, 50);
        x.cell(1, 2, 50);
        x.cell(2, 3, 0);
        x.cell(3, 4, 0);
        due.is("room", -1, x.state(2, 0));
        due.is("water", -1, x.state(3, 0));
        due.is("rock", -1, x.state(4, 0));
        due.is("cell -1", -1, x.state(-1, 0));
        due.is("cell 6", -1, x.state(6, 0));
        due.is("week -1", -1, x.state(0, -1));
        due.is("week 100", -1, x.state(0, 100));
        due.is("coal", 0, x.state(0, 0));
        due.is("pillar", 1, x.state(1, 99));
        due.is("not ahead of its week", 0, x.burns(1, 98, 1, 0));
        due.is("in its week", 1, x.burns(1, 99, 1, 0));
        x.weeks(20);
        for (int i = 2; i < 8; i++) {
            due.is("state", i, x.state(0, 5));
        }
        due.is("the ninth", -1, x.state(0, 5));
        due.is("how many", 8, x.about(5));
    }

    private static void burnsDown() {
        SeamFire x = new SeamFire(2, 2);
        x.cell(0, 1, 25);
        x.rules(20, 7, 1);
        int s = x.state(0, 3);
        due.is("nothing yet", 25, x.burns(s, 3, 0, 1));
        due.is("without air 7 / 2", 22, x.burns(s, 4, 0, 1));
        x.hole(0);
        due.is("with air", 18, x.burns(s, 4, 0, 1));
        due.is("a rest", 4, x.burns(s, 6, 0, 1));
        due.is("still", 1, x.burns(s, 6, 0, 0));
        due.is("burnt", 2, x.burns(s, 7, 0, 0));
        due.is("nothing left", 0, x.burns(s, 7, 0, 1));
        due.is("for ever", 2, x.burns(s, 99, 0, 0));
        due.is("earlier weeks are told again", 18, x.burns(s, 4, 0, 1));
    }

    private static void heat() {
        SeamFire x = seam(3, 2, 1, 500);
        x.rules(5, 10, 1);
        int s = x.state(0, 0);
        x.hole(1);
        x.weeks(2);
        x.plug(0);
        int[] want = {0, 1, 2, 1, 0, 0};
        for (int m = 0; m < want.length; m++) {
            due.is("heat in " + m, want[m], x.burns(s, m, 1, 2));
        }
        due.is("without air none", 0, x.burns(s, 9, 3, 2));
        coolsOneByOne();
        SeamFire y = seam(3, 3, 1, 500);
        y.rules(1, 10, 1);
        int t = y.state(1, 0);
        y.hole(0);
        y.hole(2);
        y.hole(4);
        due.is("three caught at once", 4, y.lost(t, 1));
        y.rules(3, 10, 1);
        due.is("all but one", 1, y.lost(t, 1));
        due.is("heat", 2, y.burns(t, 2, 4, 2));
        due.is("then all three", 4, y.lost(t, 3));
        due.is("heat stays while it burns", 3, y.burns(t, 9, 4, 2));
        y.weeks(3);
        y.hole(3);
        y.hole(8);
        due.is("two neighbours burn", 2, y.burns(t, 4, 3, 2));
        due.is("none burns beside it", 0, y.burns(t, 4, 8, 2));
        due.is("3 is at catch", 1, y.burns(t, 5, 3, 0));
        due.is("what comes of two is above it", 4, y.burns(t, 5, 3, 2));
    }

    /** Cells 0, 2, 4 beside cell 1 have other heats when air ends; each goes on cooling. */
    private static void coolsOneByOne() {
        SeamFire x = seam(3, 2, 1, 900);
        x.rules(9, 10, 1);
        int s = x.state(1, 0);
        x.hole(2);
        x.hole(4);
        x.weeks(2);
        x.hole(0);
        x.weeks(1);
        x.plug(0);
        x.plug(1);
        x.plug(2);
        int[][] want = {{1, 0, 0, 0}, {3, 2, 1, 0}, {3, 2, 1, 0}};
        int[] cells = {0, 2, 4};
        for (int i = 0; i < cells.length; i++) {
            for (int m = 0; m < 4; m++) {
                due.is("heat of " + cells[i] + " in " + (3 + m), want[i][m], x.burns(s, 3 + m, cells[i], 2));
            }
        }
    }

    private static void airThroughRooms() {
        SeamFire x = new SeamFire(5, 2);
        for (int c = 0; c < 5; c++) {
            x.cell(c, 3, 0);
        }
        x.cell(9, 1, 50);
        int s = x.state(9, 0);
        x.hole(0);
        x.rules(3, 10, 3);
        due.is("reached by draw", 1, x.burns(s, 0, 3, 3));
        due.is("beyond", 0, x.burns(s, 0, 4, 3));
        due.is("rock beside one by 2", 1, x.burns(s, 0, 7, 3));
        due.is("rock beside one by 3", 0, x.burns(s, 0, 8, 3));
        x.rules(3, 10, 5);
        due.is("coal beside one by 4", 1, x.burns(s, 0, 9, 3));
        x.pour(2, 20);
        due.is("a full room has air of its neighbour", 1, x.burns(s, 1, 2, 3));
        due.is("but lets none through", 0, x.burns(s, 1, 3, 3));
        due.is("poured this week, not yet", 1, x.burns(s, 0, 3, 3));
        x.weeks(1);
        x.hole(7);
        due.is("a hole in rock is reached", 1, x.burns(s, 1, 7, 3));
        due.is("rock beside it is not", 0, x.burns(s, 1, 8, 3));
        x.hole(8);
        due.is("from a hole in rock to an open neighbour", 1, x.burns(s, 1, 3, 3));
        due.is("and on", 1, x.burns(s, 1, 4, 3));
        due.is("to coal", 1, x.burns(s, 1, 9, 3));
        x.rules(3, 10, 0);
        due.is("draw 0: holes alone", 1, x.burns(s, 1, 8, 3));
        due.is("draw 0: no more", 0, x.burns(s, 1, 3, 3));
        due.is("draw 0: no neighbour of an open one", 0, x.burns(s, 0, 5, 3));
    }

    private static void airOfBurntCells() {
        SeamFire x = seam(4, 2, 1, 10);
        x.rules(1, 10, 9);
        int s = x.state(0, 0);
        x.hole(0);
        due.is("burns", 1, x.burns(s, 0, 0, 0));
        due.is("coal lets no air through", 0, x.burns(s, 0, 1, 3));
        due.is("burnt", 2, x.burns(s, 1, 0, 0));
        due.is("a burnt one does", 1, x.burns(s, 1, 1, 3));
        due.is("too late to catch", 0, x.burns(s, 9, 1, 0));
        x.rules(1, 5, 9);
        x.hole(1);
        due.is("burns a second week", 1, x.burns(s, 1, 1, 0));
        due.is("burnt at 3", 2, x.burns(s, 3, 1, 0));
        due.is("air goes over both", 1, x.burns(s, 3, 2, 3));
        SeamFire y = seam(2, 2, 1, 500);
        y.cell(0, 1, 10);
        y.rules(1, 5, 9);
        int t = y.state(0, 0);
        y.hole(0);
        y.hole(1);
        due.is("its neighbour burns", 1, y.burns(t, 5, 1, 0));
        due.is("what is burnt stays so", 2, y.burns(t, 5, 0, 0));
        due.is("and takes no heat", 0, y.burns(t, 5, 0, 2));
    }

    private static void airAndCuts() {
        SeamFire x = new SeamFire(3, 2);
        x.cell(0, 3, 0);
        x.cell(1, 3, 0);
        x.cell(2, 1, 20);
        x.cell(5, 1, 20);
        int s = x.state(2, 0);
        x.rules(1, 10, 9);
        x.hole(0);
        due.is("air", 1, x.burns(s, 1, 2, 3));
        x.weeks(1);
        x.trench(1, 0, 1, 1);
        due.is("a cut room is none", 0, x.burns(s, 1, 2, 3));
        due.is("it has air beside an open one", 1, x.burns(s, 1, 1, 3));
        due.is("the week ahead is as it was", 1, x.burns(s, 0, 2, 3));
        x.weeks(4);
        due.is("burnt", 2, x.burns(s, 5, 2, 0));
        due.is("lost", 1, x.lost(s, 5));
        x.trench(2, 2, 1, 1);
        due.is("a burnt cell that is cut isn't burnt", 0, x.burns(s, 5, 2, 0));
        due.is("nor lost", 0, x.lost(s, 5));
        due.is("but it was", 2, x.burns(s, 4, 2, 0));
        SeamFire y = seam(2, 2, 1, 90);
        int t = y.state(0, 2);
        y.trench(0, 0, 1, 1);
        due.is("what is cut never lights", 0, y.lost(t, 50));
        due.is("nor has it tons", 0, y.burns(t, 2, 0, 1));
        SeamFire z = seam(2, 2, 1, 90);
        int u = z.state(0, 0);
        z.rules(9, 10, 2);
        z.hole(1);
        z.weeks(3);
        z.trench(1, 0, 1, 1);
        due.is("heat stays with a cut cell", 3, z.burns(u, 7, 1, 2));
    }

    private static void burnsWrong() {
        SeamFire x = seam(2, 2, 1, 90);
        due.is("no state", -1, x.burns(0, 0, 0, 0));
        x.state(0, 0);
        int[][] wrong = {{-1, 0, 0, 0}, {1, 0, 0, 0}, {0, -1, 0, 0}, {0, 100, 0, 0}, {0, 0, -1, 0}, {0, 0, 4, 0},
            {0, 0, 0, -1}, {0, 0, 0, 4}, {8, 0, 0, 0}};
        for (int[] b : wrong) {
            due.is("burns", -1, x.burns(b[0], b[1], b[2], b[3]));
        }
        due.is("the last week", 1, x.burns(0, 17, 0, 0));
        due.is("lost of none", -1, x.lost(1, 0));
        due.is("lost of -1", -1, x.lost(-1, 0));
        due.is("lost in -1", -1, x.lost(0, -1));
        due.is("lost in 100", -1, x.lost(0, 100));
        due.is("lost in 99", 1, x.lost(0, 99));
    }

    private static void lost() {
        SeamFire x = seam(3, 2, 1, 30);
        x.rules(1, 10, 9);
        int s = x.state(0, 4);
        for (int c = 0; c < 6; c++) {
            x.hole(c);
        }
        int[] want = {0, 0, 0, 0, 1, 3, 5, 6, 6};
        for (int m = 0; m < want.length; m++) {
            due.is("lost in " + m, want[m], x.lost(s, m));
        }
        due.is("burnt ones too", 2, x.burns(s, 7, 0, 0));
    }

    private static void fed() {
        SeamFire x = seam(3, 2, 1, 300);
        x.rules(1, 10, 9);
        int s = x.state(0, 0);
        x.hole(1);
        x.hole(1);
        x.hole(3);
        due.is("lost", 3, x.lost(s, 1));
        due.is("another hole is in the same cell", 0, x.fed(s, 1, 0));
        due.is("it alone", 1, x.fed(s, 1, 2));
        x.plug(1);
        due.is("now", 1, x.fed(s, 1, 0));
        due.is("a plugged one", 0, x.fed(s, 1, 1));
        due.is("at the beginning", 0, x.fed(s, 0, 0));
        due.is("nothing is changed", 3, x.lost(s, 1));
        int[][] wrong = {{-1, 0, 0}, {1, 0, 0}, {0, -1, 0}, {0, 100, 0}, {0, 0, -1}, {0, 0, 3}};
        for (int[] f : wrong) {
            due.is("fed", -1000, x.fed(f[0], f[1], f[2]));
        }
        int other = x.state(5, 2);
        x.hole(2);
        due.is("by another state", 1, x.lost(other, 2));
        due.is("its own neighbour", 1, x.fed(other, 3, 3));
        due.is("ahead of it", 0, x.fed(other, 2, 3));
        // Air makes the first cell burn out ahead of the second one's catching: the hole feeds less than none.
        SeamFire y = new SeamFire(2, 2);
        y.cell(0, 1, 10);
        y.cell(1, 1, 10);
        y.rules(2, 10, 0);
        int t = y.state(0, 0);
        y.hole(1);
        y.hole(0);
        due.is("less than none", -1, y.fed(t, 9, 1));
        due.is("the other", 0, y.fed(t, 9, 0));
        due.is("asked again", -1, y.fed(t, 9, 1));
    }

    private static void inTime() {
        SeamFire x = seam(4, 2, 1, 300);
        x.rules(1, 10, 9);
        for (int c = 0; c < 8; c++) {
            x.hole(c);
        }
        int s = x.state(0, 0);
        int late = x.state(1, 1);
        int same = x.state(1, 0);
        due.is("one ahead of it", 0, x.trench(1, 2, 2, 1));
        due.is("cell 1 in 0, cell 5 in 1", 1, x.inTime(0, s));
        due.is("it is cut when it would light", 1, x.inTime(0, late));
        due.is("it lights in the week of its cut", 0, x.inTime(0, same));
        due.is("and is out at once", 0, x.lost(same, 0));
        due.is("one by one", 1, x.trench(3, 1, 4, 1));
        due.is("cell 0 is cut in 3", 0, x.inTime(1, s));
        due.is("it catches in the week of its cut", 2, x.trench(4, 0, 1, 1));
        due.is("in time", 1, x.inTime(2, s));
        tooLate();
    }

    private static void tooLate() {
        SeamFire x = seam(4, 2, 1, 300);
        x.rules(1, 10, 9);
        for (int c = 0; c < 8; c++) {
            x.hole(c);
        }
        int s = x.state(0, 0);
        x.weeks(1);
        due.is("two that catch now", 0, x.trench(4, 0, 1, 1));
        due.is("too late", 0, x.inTime(0, s));
        due.is("though it is cut", 0, x.burns(s, 1, 4, 0));
        for (int i = 0; i < 7; i++) {
            x.weeks(14);
        }
        due.is("clock", 99, x.about(0));
        due.is("what is never cut doesn't count", 1, x.trench(4, 0, 2, 1));
        due.is("cut already", 1, x.inTime(1, s));
        due.is("trench -1", -1, x.inTime(-1, s));
        due.is("trench 2", -1, x.inTime(2, s));
        due.is("state -2", -1, x.inTime(0, -2));
        due.is("state 1", -1, x.inTime(0, 1));
    }

    private static void inTimeByMany() {
        SeamFire x = seam(3, 2, 1, 300);
        due.is("trench", 0, x.trench(1, 2, 2, 2));
        due.is("no state", -1, x.inTime(0, -1));
        x.state(0, 0);
        due.is("by all", 2, x.inTime(0, -1));
        x.state(1, 0);
        due.is("by some", 1, x.inTime(0, -1));
        x.read(0, 0, false);
        due.is("by none that is let", 0, x.inTime(0, -1));
        due.is("by one that isn't let", 1, x.inTime(0, 0));
        x.read(1, 0, true);
        due.is("cut at the beginning: none is let", -1, x.inTime(0, -1));
        SeamFire y = seam(3, 2, 1, 300);
        y.state(0, 8);
        y.state(5, 8);
        y.trench(1, 2, 2, 2);
        y.weeks(9);
        y.read(0, 9, false);
        due.is("as the latest reading lets it", 2, y.inTime(0, -1));
        due.is("the one that isn't let", 0, y.let(0, 9));
        SeamFire z = seam(3, 2, 1, 300);
        z.state(1, 8);
        z.state(5, 8);
        z.weeks(9);
        z.trench(1, 2, 2, 2);
        z.read(1, 8, false);
        due.is("the one that is too late isn't let", 2, z.inTime(0, -1));
    }
}
