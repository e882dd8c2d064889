/** Promises 1 to 8: the seam and what is done to it. */
public final class SeamTest {
    private static final Due due = new Due("SeamTest");

    public static void main(String[] args) {
        newObject();
        cell();
        rulesAtFirst();
        rules();
        hole();
        plug();
        pour();
        pourLimits();
        pourAndTelling();
        sandThatStays();
        trench();
        trenchLimits();
        due.end();
    }

    private static SeamFire seam(int w, int h, int kind, int tons) {
        SeamFire x = new SeamFire(w, h);
        for (int c = 0; c < w * h; c++) {
            due.yes("cell", x.cell(c, kind, tons));
        }
        return x;
    }

    private static void newObject() {
        int[][] sizes = {{2, 8, 2, 8}, {1, 9, 2, 8}, {0, 3, 2, 3}, {8, -7, 8, 2}, {9, 2, 8, 2},
            {Integer.MIN_VALUE, Integer.MAX_VALUE, 2, 8}, {5, 4, 5, 4}};
        for (int[] s : sizes) {
            SeamFire x = new SeamFire(s[0], s[1]);
            due.is("w", s[2], x.about(1));
            due.is("h", s[3], x.about(2));
            due.is("the clock", 0, x.about(0));
            for (int c = 0; c < s[2] * s[3]; c++) {
                due.is("rock has no state", -1, x.state(c, 0));
                due.is("rock is no room", -1, x.place(c, 1));
                due.is("fill", 0, x.fill(c));
            }
            due.is("fill beyond", -1, x.fill(s[2] * s[3]));
            for (int what = 3; what <= 13; what++) {
                due.is("about(" + what + ")", 0, x.about(what));
            }
            x.cell(0, 1, 5);
            x.hole(1);
            x.weeks(3);
            due.is("back to the new one", 0, x.back());
            due.is("its holes", 0, x.about(3));
            due.is("its rock", -1, x.state(0, 0));
        }
    }

    private static void cell() {
        SeamFire x = new SeamFire(3, 2);
        for (int kind : new int[] {1, 2}) {
            due.yes("1 ton", x.cell(0, kind, 1));
            due.yes("999 tons", x.cell(0, kind, 999));
            due.no("0 tons", x.cell(0, kind, 0));
            due.no("1000 tons", x.cell(0, kind, 1000));
            due.no("-1 tons", x.cell(0, kind, -1));
        }
        for (int kind : new int[] {0, 3, 4}) {
            due.yes("no tons", x.cell(1, kind, 0));
            due.no("a ton", x.cell(1, kind, 1));
        }
        due.no("kind -1", x.cell(0, -1, 0));
        due.no("kind 5", x.cell(0, 5, 0));
        due.no("cell -1", x.cell(-1, 0, 0));
        due.no("cell 6", x.cell(6, 0, 0));
        due.yes("cell 5", x.cell(5, 2, 40));
        due.is("state", 0, x.state(0, 0));
        due.is("what was refused changed nothing", 999, x.burns(0, 0, 0, 1));
        due.is("pillar", 40, x.burns(0, 0, 5, 1));
        due.yes("told again", x.cell(5, 0, 0));
        due.is("rock has no tons", 0, x.burns(0, 0, 5, 1));
        due.yes("the state's own cell", x.cell(0, 4, 0));
        due.is("water doesn't burn", 0, x.lost(0, 0));
        x.weeks(1);
        due.no("behind clock 0", x.cell(5, 0, 0));
    }

    private static void rulesAtFirst() {
        SeamFire x = new SeamFire(8, 2);
        for (int c = 0; c < 8; c++) {
            x.cell(c, 3, 0);
            x.cell(c + 8, 1, 100);
        }
        x.hole(0);
        int s = x.state(8, 0);
        due.is("reached by 6", 1, x.burns(s, 0, 6, 3));
        due.is("7 is above draw", 0, x.burns(s, 0, 7, 3));
        due.is("beside one by 5", 1, x.burns(s, 0, 13, 3));
        due.is("beside one by 6", 0, x.burns(s, 0, 14, 3));
        due.is("rate 10", 90, x.burns(s, 1, 8, 1));
        due.is("heat 2", 2, x.burns(s, 2, 9, 2));
        due.is("not yet", 0, x.burns(s, 2, 9, 0));
        due.is("catch 3", 1, x.burns(s, 3, 9, 0));
    }

    private static void rules() {
        SeamFire x = seam(2, 2, 1, 500);
        int s = x.state(0, 0);
        due.yes("least", x.rules(1, 1, 0));
        due.yes("greatest", x.rules(20, 99, 30));
        due.is("rate 99, cut in half", 451, x.burns(s, 1, 0, 1));
        int[][] wrong = {{0, 1, 0}, {21, 1, 0}, {1, 0, 0}, {1, 100, 0}, {1, 1, -1}, {1, 1, 31},
            {Integer.MIN_VALUE, 1, 1}, {1, Integer.MAX_VALUE, 1}};
        for (int[] r : wrong) {
            due.no("rules", x.rules(r[0], r[1], r[2]));
        }
        due.is("nothing changed", 451, x.burns(s, 1, 0, 1));
        x.rules(2, 1, 0);
        due.is("1 / 2 is 0", 500, x.burns(s, 99, 0, 1));
        x.hole(0);
        due.is("the hole's own cell has air, draw 0", 1, x.burns(s, 0, 0, 3));
        due.is("its neighbour has none", 0, x.burns(s, 0, 1, 3));
        x.weeks(20);
        due.is("seen ahead of the change", 480, x.burns(s, 20, 0, 1));
        due.yes("rules later", x.rules(2, 30, 0));
        due.is("are the same for all weeks", 470, x.burns(s, 1, 0, 1));
    }

    private static void hole() {
        SeamFire x = seam(2, 2, 1, 500);
        int s = x.state(0, 0);
        due.is("hole(-1)", -1, x.hole(-1));
        due.is("hole(4)", -1, x.hole(4));
        x.weeks(2);
        for (int i = 0; i < 20; i++) {
            due.is("hole", i, x.hole(i == 0 ? 0 : 3));
        }
        due.is("the 21st", -1, x.hole(0));
        due.is("how many", 20, x.about(3));
        due.is("not open ahead of it", 0, x.burns(s, 1, 0, 3));
        due.is("open in the clock's week", 1, x.burns(s, 2, 0, 3));
        due.is("and on", 1, x.burns(s, 99, 0, 3));
        SeamFire y = seam(2, 2, 1, 500);
        y.state(0, 0);
        due.is("asked ahead of the boring", 495, y.burns(0, 1, 0, 1));
        y.hole(0);
        due.is("asked again", 490, y.burns(0, 1, 0, 1));
        SeamFire late = seam(2, 2, 1, 500);
        for (int i = 0; i < 9; i++) {
            late.weeks(11);
        }
        due.is("at 99", 0, late.hole(0));
        late.weeks(1);
        due.is("at 100", -1, late.hole(0));
    }

    private static void plug() {
        SeamFire x = seam(2, 2, 1, 500);
        int s = x.state(0, 0);
        due.no("none to plug", x.plug(0));
        x.hole(0);
        x.hole(0);
        x.hole(3);
        due.yes("in the week it was bored", x.plug(2));
        due.is("never open", 0, x.burns(s, 0, 3, 3));
        x.weeks(5);
        due.yes("plug", x.plug(0));
        due.is("the other hole is open", 1, x.burns(s, 5, 0, 3));
        due.is("as asked ahead of the plugging", 440, x.burns(s, 6, 0, 1));
        due.yes("plug the other", x.plug(1));
        due.is("the week of the plugging has less air", 445, x.burns(s, 6, 0, 1));
        due.is("open in the week ahead", 1, x.burns(s, 4, 0, 3));
        due.is("plugged from the clock's week on", 0, x.burns(s, 5, 0, 3));
        due.no("twice", x.plug(1));
        due.no("plug(-1)", x.plug(-1));
        due.no("plug(3)", x.plug(3));
        due.is("they are still counted", 3, x.about(3));
        x.hole(1);
        for (int i = 0; i < 5; i++) {
            x.weeks(19);
        }
        due.is("clock", 100, x.about(0));
        due.yes("at 100", x.plug(3));
        due.is("open to the last", 1, x.burns(s, 99, 1, 3));
    }

    private static void fills(SeamFire x, int... want) {
        for (int c = 0; c < want.length; c++) {
            due.is("fill(" + c + ")", want[c], x.fill(c));
        }
    }

    private static void pour() {
        SeamFire x = seam(3, 3, 3, 0);
        due.is("30", 0, x.pour(4, 30));
        fills(x, 0, 10, 0, 0, 20, 0, 0, 0, 0);
        due.is("60 run on through the full one", 0, x.pour(4, 60));
        fills(x, 0, 20, 0, 20, 20, 20, 0, 10, 0);
        due.is("100", 10, x.pour(4, 100));
        fills(x, 20, 20, 20, 20, 20, 20, 20, 20, 20);
        due.is("all full", 7, x.pour(0, 7));
        due.is("fill(-1)", -1, x.fill(-1));
        due.is("fill(9)", -1, x.fill(9));
        SeamFire y = seam(3, 3, 3, 0);
        y.cell(1, 1, 5);
        y.cell(4, 2, 5);
        y.cell(7, 4, 0);
        due.is("no way across", 940, y.pour(0, 1000));
        fills(y, 20, 0, 0, 20, 0, 0, 20, 0, 0);
        y.cell(7, 3, 0);
        due.is("by steps, not as the crow flies", 0, y.pour(0, 25));
        fills(y, 20, 0, 0, 20, 0, 0, 20, 20, 5);
    }

    private static void pourLimits() {
        SeamFire x = seam(3, 3, 3, 0);
        x.cell(0, 1, 100);
        due.is("no room", -1, x.pour(0, 5));
        due.is("cell -1", -1, x.pour(-1, 5));
        due.is("cell 9", -1, x.pour(9, 5));
        due.is("0 tons", -1, x.pour(1, 0));
        due.is("1001 tons", -1, x.pour(1, 1001));
        due.is("fill is as it was", 0, x.fill(1));
        due.is("a trench cuts a room", 0, x.trench(1, 0, 1, 1));
        due.is("as it was told it is a room", 0, x.pour(1, 1));
        x = seam(3, 3, 3, 0);
        x.cell(0, 1, 100);
        x.rules(1, 1, 5);
        int s = x.state(0, 0);
        x.hole(1);
        x.weeks(1);
        x.pour(1, 19);
        x.pour(3, 20);
        due.is("19 is open", 1, x.burns(s, 2, 0, 3));
        due.is("as asked ahead of the pouring", 97, x.burns(s, 3, 0, 1));
        x.pour(1, 1);
        due.is("as asked behind it", 98, x.burns(s, 3, 0, 1));
        due.is("open in the week of the pouring", 1, x.burns(s, 1, 0, 3));
        due.is("full from the next on", 0, x.burns(s, 2, 0, 3));
        for (int i = 3; i < 40; i++) {
            due.is("pour", 0, x.pour(8, 1));
        }
        due.is("the 41st", -1, x.pour(8, 1));
        due.is("fill", 20, x.fill(8));
        x = seam(2, 2, 3, 0);
        for (int i = 0; i < 5; i++) {
            x.weeks(20);
        }
        due.is("at 100", -1, x.pour(0, 1));
    }

    private static void pourAndTelling() {
        SeamFire x = seam(3, 2, 3, 0);
        x.pour(0, 15);
        x.cell(0, 3, 0);
        due.is("a room told again as a room", 15, x.fill(0));
        x.cell(0, 1, 7);
        due.is("told as coal it keeps its sand", 15, x.fill(0));
        x.cell(0, 0, 0);
        due.is("as rock", 15, x.fill(0));
        x.pour(1, 20);
        due.is("sand runs past what is no room now", 0, x.pour(1, 10));
        due.is("so no more comes to it", 15, x.fill(0));
        x.cell(0, 3, 0);
        due.is("as a room", 15, x.fill(0));
        due.is("it takes 5 more, the others 70", 905, x.pour(0, 980));
        due.is("fill", 20, x.fill(0));
        due.is("a new object has none", 0, new SeamFire(3, 2).fill(0));
    }

    private static void sandThatStays() {
        SeamFire x = seam(3, 2, 0, 0);
        x.cell(0, 3, 0);
        x.pour(0, 20);
        x.cell(3, 1, 9);
        x.cell(5, 1, 9);
        x.state(5, 0);
        x.hole(0);
        due.is("not full in week 0", 1, x.burns(0, 0, 3, 3));
        due.is("full from week 1 on", 0, x.burns(0, 1, 3, 3));
        x.cell(0, 4, 0);
        due.is("water isn't open", 0, x.burns(0, 0, 3, 3));
        x.cell(0, 3, 0);
        due.is("told as a room again: in week 0", 1, x.burns(0, 0, 3, 3));
        due.is("it is full still", 0, x.burns(0, 1, 3, 3));
        x.cell(0, 1, 1);
        x.state(0, 0);
        due.is("coal with sand burns", 1, x.burns(1, 0, 0, 0));
        due.is("and is burnt", 2, x.burns(1, 1, 0, 0));
        due.is("burnt it is open, with its sand", 1, x.burns(1, 1, 3, 3));
        due.is("which stays", 20, x.fill(0));
        x.image();
        x.cell(0, 3, 0);
        x.back();
        due.is("behind an image too", 20, x.fill(0));
    }

    private static void trench() {
        SeamFire x = seam(4, 3, 1, 60);
        int s = x.state(11, 0);
        due.is("right", 0, x.trench(0, 0, 3, 2));
        due.is("the first two in week 0", 0, x.burns(s, 0, 0, 1));
        due.is("the second", 0, x.burns(s, 0, 1, 1));
        due.is("not the third", 60, x.burns(s, 0, 2, 1));
        due.is("which is cut in week 1", 0, x.burns(s, 1, 2, 1));
        due.is("not the fourth", 60, x.burns(s, 99, 3, 1));
        x.weeks(2);
        due.is("left", 1, x.trench(7, 1, 4, 8));
        due.is("not ahead", 60, x.burns(s, 1, 7, 1));
        due.is("far end, at once", 0, x.burns(s, 2, 4, 1));
        due.is("down", 2, x.trench(3, 2, 3, 1));
        due.is("3", 0, x.burns(s, 2, 3, 1));
        due.is("11 in week 3", 60 - 5 * 3, x.burns(s, 3, 11, 1));
        due.is("11 in week 4", 0, x.burns(s, 4, 11, 1));
        due.is("up", 3, x.trench(8, 3, 1, 1));
        due.is("8", 0, x.burns(s, 2, 8, 1));
        due.is("9 is whole", 60, x.burns(s, 99, 9, 1));
        due.is("up too far", -1, x.trench(8, 3, 4, 1));
        due.is("up just enough", 4, x.trench(8, 3, 3, 1));
    }

    private static void trenchLimits() {
        SeamFire x = seam(8, 2, 1, 60);
        int[][] wrong = {{-1, 0, 1, 1}, {16, 0, 1, 1}, {0, -1, 1, 1}, {0, 4, 1, 1}, {0, 0, 0, 1}, {0, 0, 9, 1},
            {0, 0, 1, 0}, {0, 0, 1, 9}, {1, 0, 8, 1}, {6, 1, 8, 1}, {0, 2, 3, 1}, {8, 3, 3, 1}, {8, 2, 2, 1},
            {0, 3, 2, 1}, {8, 1, 2, 1}, {7, 0, 2, 1}};
        for (int[] t : wrong) {
            due.is("trench", -1, x.trench(t[0], t[1], t[2], t[3]));
        }
        due.is("none yet", 0, x.about(4));
        due.is("all 8", 0, x.trench(0, 0, 8, 8));
        due.is("all 8 back", 1, x.trench(15, 1, 8, 1));
        for (int i = 2; i < 10; i++) {
            due.is("trench", i, x.trench(0, 2, 2, 1));
        }
        due.is("the 11th", -1, x.trench(0, 2, 2, 1));
        due.is("how many", 10, x.about(4));
        SeamFire all = seam(8, 8, 1, 60);
        all.state(0, 0);
        for (int y = 0; y < 8; y++) {
            due.is("a row", y, all.trench(8 * y, 0, 8, 8));
        }
        for (int c = 0; c < 64; c++) {
            due.is("all 64 are cut at once", 0, all.burns(0, 0, c, 1));
        }
        SeamFire late = seam(2, 2, 1, 60);
        int s = late.state(3, 0);
        for (int i = 0; i < 9; i++) {
            late.weeks(11);
        }
        due.is("at 99", 0, late.trench(0, 0, 2, 1));
        due.is("cut in 99", 0, late.burns(s, 99, 0, 1));
        due.is("never cut", 60, late.burns(s, 99, 1, 1));
        late.weeks(1);
        due.is("at 100", -1, late.trench(0, 0, 1, 1));
    }
}
