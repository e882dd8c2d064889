/** Promises 14 to 17: readings, states that are let, span, and the cell that parts most. */
public final class KnownTest {
    private static final Due due = new Due("KnownTest");

    public static void main(String[] args) {
        read();
        readLimit();
        let();
        span();
        parts();
        atTheEnd();
        due.end();
    }

    private static SeamFire seam() {
        SeamFire x = new SeamFire(4, 2);
        for (int c = 0; c < 8; c++) {
            x.cell(c, 1, 300);
        }
        return x;
    }

    private static void read() {
        SeamFire x = seam();
        due.is("ahead of its week", -1, x.read(0, 1, true));
        due.is("the clock's", 1, x.read(0, 0, false));
        due.is("cell -1", -1, x.read(-1, 0, true));
        due.is("cell 8", -1, x.read(8, 0, true));
        due.is("week -1", -1, x.read(0, -1, true));
        x.weeks(3);
        due.is("at the clock's", 2, x.read(7, 3, false));
        due.is("below it", 3, x.read(7, 0, false));
        due.is("above it", -1, x.read(7, 4, false));
        due.is("how many", 3, x.about(6));
        for (int i = 0; i < 97; i++) {
            x.weeks(1);
        }
        due.is("at 100", 4, x.read(0, 99, false));
        due.is("week 100", -1, x.read(0, 100, false));
    }

    private static void readLimit() {
        SeamFire x = seam();
        for (int i = 1; i <= 200; i++) {
            due.is("read", i, x.read(i % 8, 0, false));
        }
        due.is("the 201st", -1, x.read(0, 0, false));
        due.is("how many", 200, x.about(6));
        x.state(0, 0);
        due.is("it isn't so", 0, x.let(0, 0));
        x.state(0, 1);
        due.is("it is", 1, x.let(1, 0));
    }

    private static void let() {
        SeamFire x = seam();
        due.is("of none", 0, x.let(-1, 0));
        due.is("no such", -1, x.let(0, 0));
        x.cell(1, 1, 5);
        x.hole(1);
        x.state(0, 0);
        x.state(1, 0);
        x.state(0, 9);
        due.is("all", 3, x.let(-1, 0));
        x.weeks(2);
        due.is("burnt isn't burning", 2, x.burns(1, 1, 1, 0));
        x.read(1, 1, false);
        due.is("all still", 3, x.let(-1, 2));
        x.read(1, 0, true);
        due.is("one", 1, x.let(-1, 2));
        due.is("which", 1, x.let(1, 2));
        due.is("not", 0, x.let(0, 2));
        due.is("as known ahead of it", 3, x.let(-1, 1));
        due.is("each", 1, x.let(0, 1));
        due.is("as known later", 1, x.let(-1, 100));
        x.weeks(1);
        x.read(7, 0, true);
        due.is("none now", 0, x.let(-1, 3));
        due.is("one ahead of that", 1, x.let(-1, 2));
        due.is("known -1", -1, x.let(-1, -1));
        due.is("known 101", -1, x.let(-1, 101));
        due.is("state -2", -1, x.let(-2, 0));
        due.is("state 3", -1, x.let(3, 0));
    }

    private static void span() {
        SeamFire x = seam();
        due.is("no state", -1, x.span(0, 0, 0));
        x.state(0, 0);
        x.state(0, 1);
        x.state(1, 0);
        due.is("may be", 1, x.span(0, 0, 0));
        due.is("not", 0, x.span(5, 0, 0));
        x.weeks(1);
        x.read(1, 1, false);
        due.is("sure", 2, x.span(0, 1, 1));
        due.is("may be at the beginning", 1, x.span(0, 0, 1));
        due.is("not, by those let", 0, x.span(1, 0, 1));
        due.is("may be, as known ahead", 1, x.span(1, 0, 0));
        due.is("a week to come", 2, x.span(0, 50, 1));
        due.is("burnt is not", 0, x.span(0, 99, 1));
        x.read(2, 0, true);
        due.is("none let", -1, x.span(0, 0, 1));
        int[][] wrong = {{-1, 0, 0}, {8, 0, 0}, {0, -1, 0}, {0, 100, 0}, {0, 0, -1}, {0, 0, 101}};
        for (int[] s : wrong) {
            due.is("span", -1, x.span(s[0], s[1], s[2]));
        }
    }

    /** The clock at 100 is no week: all that is known now ends with week 99. */
    private static void atTheEnd() {
        SeamFire x = seam();
        x.state(0, 90);
        x.state(1, 90);
        x.house(0, 2, 1);
        x.trench(0, 0, 1, 1);
        x.place(0, 1);
        for (int i = 0; i < 5; i++) {
            x.weeks(20);
        }
        x.read(0, 99, false);
        due.is("let", 2, x.let(-1, 100));
        due.is("let(0)", 1, x.let(0, 100));
        due.is("span", 1, x.span(1, 99, 100));
        due.is("parts", 1, x.parts(99));
        due.is("gas", 6, x.gas(0, 99, true));
        due.is("in time", 2, x.inTime(0, -1));
        due.is("by", 0, x.by(0, 99, 0));
        due.is("vote", 0, x.vote(99, 0));
        due.is("whose", -1, x.whose(99));
        due.is("best", -1, x.best(0, 100, 0));
        due.is("lost", 1, x.lost(1, 99));
        due.is("fed", -1000, x.fed(0, 99, 0));
        due.is("image", 100, x.image());
        due.is("back", 100, x.back());
        due.is("let again", 2, x.let(-1, 100));
    }

    private static void parts() {
        SeamFire x = seam();
        due.is("no state", -1, x.parts(0));
        x.state(6, 0);
        due.is("one parts nothing", -1, x.parts(0));
        x.state(5, 0);
        due.is("the lowest of like ones", 5, x.parts(0));
        x.state(6, 0);
        x.state(6, 3);
        x.state(2, 0);
        due.is("2 of 5, 1 of 5", 6, x.parts(0));
        due.is("3 of 5 later, so 2", 6, x.parts(3));
        x.state(2, 0);
        due.is("2 and 6: like", 2, x.parts(0));
        due.is("6: 3 of 6", 6, x.parts(3));
        x.read(6, 0, true);
        due.is("those that are let agree", -1, x.parts(0));
        SeamFire y = seam();
        y.state(0, 0);
        y.state(1, 0);
        due.is("cell 0 is one too", 0, y.parts(0));
        due.is("week -1", -1, x.parts(-1));
        due.is("week 100", -1, x.parts(100));
        x.read(0, 0, true);
        due.is("none let", -1, x.parts(0));
    }
}
