/** Promises 18 to 25: houses, gas, people, offers, and weeks that go by. */
public final class TownTest {
    private static final Due due = new Due("TownTest");

    public static void main(String[] args) {
        house();
        gas();
        gasOfManyStates();
        person();
        hears();
        offer();
        pull();
        gone();
        chainOfKin();
        weeks();
        due.end();
    }

    private static void house() {
        SeamFire x = new SeamFire(3, 2);
        int[][] wrong = {{-1, 0, 1}, {6, 0, 1}, {0, -1, 1}, {0, 10, 1}, {0, 0, 0}, {0, 0, 10}};
        for (int[] h : wrong) {
            due.is("house", -1, x.house(h[0], h[1], h[2]));
        }
        due.is("least", 0, x.house(0, 0, 1));
        due.is("greatest", 1, x.house(5, 9, 9));
        due.is("size", 900, x.by(1, 0, 1));
        for (int i = 2; i < 20; i++) {
            due.is("house", i, x.house(0, 1, 1));
        }
        due.is("the 21st", -1, x.house(0, 1, 1));
        due.is("how many", 20, x.about(7));
    }

    private static void gas() {
        SeamFire x = new SeamFire(8, 8);
        x.cell(27, 1, 999);
        x.cell(28, 1, 999);
        x.rules(1, 1, 1);
        x.state(27, 0);
        int[] at = {27, 26, 19, 18, 25, 43, 24, 10, 51, 11, 3, 23, 63, 0};
        int[] far = {0, 1, 1, 2, 2, 2, 3, 3, 3, 2, 3, 5, 8, 6};
        for (int i = 0; i < at.length; i++) {
            int house = x.house(at[i], 7, 1);
            due.is("gas above " + at[i], 7 * Math.max(0, 4 - far[i]), x.gas(house, 0, true));
            due.is("least", 7 * Math.max(0, 4 - far[i]), x.gas(house, 0, false));
        }
        int tight = x.house(27, 0, 1);
        due.is("no cracks", 0, x.gas(tight, 0, true));
        x.hole(28);
        due.is("two burn", 7 * (4 + 3), x.gas(0, 1, true));
        due.is("3 and 4 away", 7 * 1, x.gas(6, 1, true));
        x.trench(27, 0, 1, 1);
        due.is("cut", 0, x.gas(0, 0, true));
        due.is("house -1", -1, x.gas(-1, 0, true));
        due.is("house 15", -1, x.gas(15, 0, true));
        due.is("week -1", -1, x.gas(0, -1, true));
        due.is("week 100", -1, x.gas(0, 100, false));
        due.is("week 99", 0, x.gas(0, 99, false));
    }

    private static void gasOfManyStates() {
        SeamFire x = new SeamFire(4, 2);
        for (int c = 0; c < 8; c++) {
            x.cell(c, 1, 20);
        }
        x.house(0, 3, 1);
        due.is("no state", 0, x.gas(0, 0, true));
        x.state(1, 0);
        x.state(2, 0);
        x.state(0, 2);
        due.is("least", 0, x.gas(0, 0, false));
        due.is("greatest", 9, x.gas(0, 0, true));
        due.is("burnt ones give none", 0, x.gas(0, 50, true));
        x.read(2, 0, true);
        due.is("least of those let", 6, x.gas(0, 0, false));
        due.is("greatest of those let", 6, x.gas(0, 0, true));
        due.is("another week", 0, x.gas(0, 4, true));
        x.read(3, 0, true);
        due.is("none let: least", 0, x.gas(0, 0, false));
        due.is("none let: greatest", 0, x.gas(0, 0, true));
    }

    private static void person() {
        SeamFire x = new SeamFire(2, 2);
        due.is("no house", -1, x.person(0, 0, 0));
        x.house(0, 0, 1);
        int[][] wrong = {{-1, 0, 0}, {1, 0, 0}, {0, -1, 0}, {0, 10, 0}, {0, 0, -1}, {0, 0, 10000}};
        for (int[] p : wrong) {
            due.is("person", -1, x.person(p[0], p[1], p[2]));
        }
        due.is("least", 0, x.person(0, 0, 0));
        due.is("greatest", 1, x.person(0, 9, 9999));
        for (int i = 2; i < 60; i++) {
            due.is("person", i, x.person(0, 1, 1));
        }
        due.is("the 61st", -1, x.person(0, 1, 1));
        due.is("how many", 60, x.about(8));
        x.offer(0, 1, 9);
        x.weeks(1);
        due.is("all but one went", 59, x.about(9));
        due.is("the last of them", 0, x.gone(59));
        due.is("one votes no", 1, x.vote(0, 1));
    }

    private static void hears() {
        SeamFire x = new SeamFire(2, 2);
        x.house(0, 0, 1);
        due.no("nobody", x.hears(0, 1));
        x.person(0, 0, 500);
        due.no("-1", x.hears(0, -1));
        due.no("10", x.hears(0, 10));
        due.no("person -1", x.hears(-1, 1));
        due.no("person 1", x.hears(1, 1));
        x.offer(0, 0, 99);
        due.yes("4", x.hears(0, 4));
        x.weeks(1);
        due.is("400 are too few", -1, x.gone(0));
        due.yes("9", x.hears(0, 9));
        due.yes("5 in its place", x.hears(0, 5));
        x.weeks(1);
        due.is("500", 1, x.gone(0));
        due.yes("one that went hears too", x.hears(0, 9));
        x.back();
        x.house(0, 0, 1);
        x.person(0, 0, 500);
        x.offer(0, 0, 9);
        x.weeks(1);
        due.is("a new one has heard nothing", -1, x.gone(0));
    }

    private static void offer() {
        SeamFire x = new SeamFire(2, 2);
        due.no("no house", x.offer(0, 1, 1));
        x.house(0, 0, 1);
        x.house(1, 0, 1);
        x.person(0, 0, 100);
        x.person(1, 1, 0);
        x.weeks(5);
        due.is("without an offer nobody goes", 0, x.about(9));
        due.no("price -1", x.offer(0, -1, 9));
        due.no("price 10000", x.offer(0, 10000, 9));
        due.no("till ahead of the clock's week", x.offer(0, 100, 4));
        due.no("till 100", x.offer(0, 100, 100));
        due.no("house -1", x.offer(-1, 100, 9));
        due.no("house 2", x.offer(2, 100, 9));
        due.yes("too low", x.offer(0, 99, 7));
        x.weeks(2);
        due.is("still there", -1, x.gone(0));
        due.yes("in its place", x.offer(0, 9999, 7));
        due.yes("again", x.offer(0, 99, 99));
        x.weeks(1);
        due.is("the later one counts", -1, x.gone(0));
        due.yes("to this week", x.offer(0, 100, 8));
        due.yes("0 to 99", x.offer(1, 0, 99));
        x.weeks(1);
        due.is("that week too", 8, x.gone(0));
        due.is("for nothing", 8, x.gone(1));
        x.person(0, 0, 50);
        x.weeks(1);
        due.is("it stands no more", -1, x.gone(2));
    }

    private static void pull() {
        SeamFire x = new SeamFire(2, 2);
        due.no("-1", x.pull(-1));
        due.no("1000", x.pull(1000));
        due.yes("0", x.pull(0));
        due.yes("999", x.pull(999));
        x.house(0, 0, 1);
        x.person(0, 4, 999);
        x.person(0, 4, 0);
        x.person(0, 5, 999);
        x.offer(0, 0, 99);
        due.no("refused", x.pull(1000));
        x.weeks(1);
        due.is("one of its kin went", 0, x.gone(0));
        due.is("another kin", -1, x.gone(2));
        SeamFire y = new SeamFire(2, 2);
        y.house(0, 0, 1);
        y.person(0, 4, 1);
        y.person(0, 4, 0);
        y.offer(0, 0, 99);
        y.weeks(1);
        due.is("at first there is no pull", -1, y.gone(0));
    }

    private static void gone() {
        SeamFire x = new SeamFire(2, 2);
        due.is("nobody", -1, x.gone(0));
        due.is("-1", -1, x.gone(-1));
        x.house(0, 0, 1);
        x.person(0, 0, 0);
        x.weeks(20);
        x.offer(0, 0, 20);
        due.is("not yet", -1, x.gone(0));
        x.weeks(20);
        due.is("in week 20", 20, x.gone(0));
        due.is("one", 1, x.about(9));
        due.is("person 1", -1, x.gone(1));
    }

    private static void chainOfKin() {
        SeamFire x = new SeamFire(2, 2);
        x.house(0, 0, 1);
        x.house(1, 0, 1);
        for (int i = 0; i < 10; i++) {
            x.person(i % 2, 3, 900 - 100 * i);
        }
        x.person(0, 3, 1000);
        x.person(0, 3, 1101);
        x.pull(100);
        x.offer(0, 0, 9);
        x.weeks(1);
        due.is("nobody begins", 0, x.about(9));
        x.offer(1, 0, 9);
        x.weeks(1);
        due.is("over and over, down to the first", 1, x.gone(0));
        due.is("the one of 1000", 1, x.gone(10));
        due.is("not the one of 1101", -1, x.gone(11));
        due.is("how many", 11, x.about(9));
        x.pull(101);
        x.weeks(1);
        due.is("kin of earlier weeks count", 2, x.gone(11));
        x.person(0, 9, 300);
        x.person(0, 9, 0);
        x.person(0, 0, 0);
        x.pull(300);
        x.weeks(1);
        due.is("kin 9", 3, x.gone(12));
        due.is("how many", 15, x.about(9));
    }

    private static void weeks() {
        SeamFire x = new SeamFire(2, 2);
        due.is("0", -1, x.weeks(0));
        due.is("-1", -1, x.weeks(-1));
        due.is("21", -1, x.weeks(21));
        due.is("1", 1, x.weeks(1));
        due.is("20", 21, x.weeks(20));
        due.is("clock", 21, x.about(0));
        for (int i = 0; i < 3; i++) {
            x.weeks(20);
        }
        due.is("beyond 100", -1, x.weeks(20));
        due.is("as it was", 81, x.about(0));
        due.is("to 100", 100, x.weeks(19));
        due.is("no more", -1, x.weeks(1));
        due.is("far too many", -1, x.weeks(Integer.MAX_VALUE));
        due.no("no offer at 100", x.offer(0, 0, 100));
    }
}
