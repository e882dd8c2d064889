/** Promises 26 to 33: the tape, acts and their faults, forces, and what they tell. */
public final class LawTest {
    private static final Due due = new Due("LawTest");

    public static void main(String[] args) {
        feed();
        act();
        actLimit();
        faults();
        faultsOfDepth();
        faultsOfClauses();
        fault();
        tokens();
        values();
        asked();
        force();
        forceLatest();
        shut();
        worth();
        whose();
        vote();
        gift();
        due.end();
    }

    private static void feed() {
        SeamFire x = new SeamFire(2, 2);
        due.is("end(1) of none", -1, x.end(1));
        due.is("end(-1)", -1, x.end(-1));
        due.is("end(0)", 0, x.end(0));
        for (int i = 1; i <= 15; i++) {
            due.is("feed", 20 * i, x.feed(0x20202020, 0x20202020, 0x20202020, 0x20202020, 0x20202020));
        }
        due.is("more than 300", -1, x.feed(0, 0, 0, 0, 0));
        due.is("300", 300, x.about(13));
        due.is("end(301)", -1, x.end(301));
        due.is("end(300)", 300, x.end(300));
        due.is("end(281)", 281, x.end(281));
        due.is("301 would be too many", -1, x.feed(0, 0, 0, 0, 0));
        due.is("end(280)", 280, x.end(280));
        due.is("300 again", 300, x.feed(0, 0, 0, 0, 0));
        due.is("end(3)", 3, x.end(3));
        due.is("cut bytes are gone", -1, x.end(4));
        // "yes " "1 = " "1 ; " then bytes 0x80 and above, which are none.
        x.end(0);
        x.feed(0x79657320, 0x31203D20, 0x31203B20, 0x20202020, 0x202020FF);
        due.is("act", -1, x.act());
        due.is("fault", 1, x.fault(0));
        due.is("the last byte", 19, x.fault(1));
        x.feed(0x80000000, 0, 0, 0, 0);
        due.is("the highest byte of a is first", -1, x.act());
        due.is("place", 0, x.fault(1));
    }

    private static void act() {
        SeamFire x = new SeamFire(2, 2);
        due.is("an empty text", 0, x.act());
        due.is("blanks", 1, Due.act(x, " \n "));
        due.is("one", 2, Due.act(x, "yes 1=1;"));
        due.is("the tape is empty then", 0, x.about(13));
        due.is("four", 3, Due.act(x, "yes 1=1;shut gas>3;whose 9 week=1;worth size;whose 0 people>2;"));
        due.is("a fault", -1, Due.act(x, "yes 1=1"));
        due.is("the tape is empty then too", 0, x.about(13));
        due.is("how many", 4, x.about(10));
        due.is("a fault behind a good clause", -1, Due.act(x, "worth 8;whose 4 1=1;worth 1;"));
        due.is("what was faulty leaves nothing", 4, Due.act(x, "worth 9;"));
        x.house(0, 0, 1);
        x.force(4, 0, 99);
        due.is("worth", 9, x.by(0, 0, 1));
        due.is("whose", -1, x.whose(0));
        for (int i = 0; i < 4; i++) {
            due.is("long and faulty", -1, Due.act(x, "worth " + times("1+", 140) + "1;worth 1;"));
        }
        due.is("a short one", 5, Due.act(x, times("whose 3 week>4;", 20)));
        x.force(5, 0, 99);
        due.is("none of twenty is so", -1, x.whose(4));
        due.is("all are", 3, x.whose(5));
    }

    private static void actLimit() {
        SeamFire x = new SeamFire(2, 2);
        for (int i = 0; i < 10; i++) {
            due.is("act", i, Due.act(x, "worth " + i + ";"));
        }
        Due.put(x, "oh");
        due.is("the 11th", -1, x.act());
        due.is("the tape stays", 2, x.about(13));
        due.is("it wasn't read", 0, x.fault(0));
        due.is("ten", 10, x.about(10));
        x.house(0, 0, 1);
        for (int i = 0; i < 10; i++) {
            x.force(i, i, i);
            due.is("worth", i, x.by(0, i, 1));
        }
    }

    private static void isFaulty(String text, int kind, int place) {
        SeamFire x = new SeamFire(2, 2);
        due.is("act of " + text, kind == 0 ? 0 : -1, Due.act(x, text));
        due.is("fault of " + text, kind, x.fault(0));
        due.is("place in " + text, place, x.fault(1));
    }

    private static void faults() {
        isFaulty("shut gas>1;", 0, -1);
        isFaulty("gas>1;", 1, 0);
        isFaulty(" ;", 1, 1);
        isFaulty("Shut 1=1;", 1, 0);
        isFaulty("shuts 1=1;", 1, 0);
        isFaulty("shut1=1;", 0, -1);
        isFaulty("shut 1 1;", 1, 7);
        isFaulty("shut 1;", 1, 6);
        isFaulty("shut ;", 1, 5);
        isFaulty("shut", 1, 4);
        isFaulty("shut  ", 1, 6);
        isFaulty("shut 1=1", 1, 8);
        isFaulty("shut 1=1=1;", 1, 8);
        isFaulty("shut (1=1);", 1, 7);
        isFaulty("shut 1=(1;", 1, 9);
        isFaulty("shut 1=1);", 1, 8);
        isFaulty("shut 1=1 or;", 1, 11);
        isFaulty("shut 1=1 and or 1=1;", 1, 13);
        isFaulty("shut not;", 1, 8);
        isFaulty("shut 1=not 1;", 1, 7);
        isFaulty("shut 1+*1=1;", 1, 7);
        isFaulty("shut +1=1;", 1, 5);
        isFaulty("shut 1=<1;", 1, 7);
        isFaulty("shut 1!1;", 1, 6);
        isFaulty("shut\t1=1;", 1, 4);
        isFaulty("shut\r1=1;", 1, 4);
        isFaulty("shut\n1\n=\n1\n;\n", 0, -1);
        isFaulty("shut 1=oil;", 1, 7);
        for (String word : new String[] {"kina", "kinz", "kinA", "kinZ", "Kin", "akin", "zkin", "ki"}) {
            isFaulty("yes " + word + "=1;", 1, 4);
        }
        isFaulty("yes kin9=1;", 1, 7);
        isFaulty("yes kin/10=1;", 0, -1);
        isFaulty("yes kin@=1;", 1, 7);
        isFaulty("yes kin[=1;", 1, 7);
        isFaulty("yes kin`=1;", 1, 7);
        isFaulty("yes kin{=1;", 1, 7);
        isFaulty("yes 1:=1;", 1, 5);
        isFaulty("shut 1=yes;", 1, 7);
        isFaulty("worth 1=1;", 1, 7);
        isFaulty("worth not 1=1;", 1, 6);
        isFaulty("whose gas>1;", 1, 6);
        isFaulty("whose 1;", 1, 7);
        isFaulty("whose -1 1=1;", 1, 6);
        isFaulty("yes 1=1;;", 1, 8);
        isFaulty("yes 1 = 1 ; z", 1, 12);
        isFaulty("worth 9999;", 0, -1);
        isFaulty("worth 10000;", 2, 6);
        isFaulty("worth 1+ 99999999999999999999999;", 2, 9);
        isFaulty("worth 00009999;", 0, -1);
        isFaulty("worth 1 10000;", 1, 8);
        isFaulty("whose 9 1=1;", 0, -1);
        isFaulty("whose 10 1=1;", 2, 6);
        isFaulty("whose 10000 1=1;", 2, 6);
        isFaulty("10000", 1, 0);
    }

    private static void faultsOfDepth() {
        isFaulty("worth ((((((((1))))))));", 0, -1);
        isFaulty("worth (((((((((1)))))))));", 3, 14);
        isFaulty("worth --------1;", 0, -1);
        isFaulty("worth ---------1;", 3, 14);
        isFaulty("worth 1---------1;", 0, -1);
        isFaulty("worth 1----------1;", 3, 16);
        isFaulty("shut not not not not not not not not 1=1;", 0, -1);
        isFaulty("shut not not not not not not not not not 1=1;", 3, 37);
        isFaulty("shut not not not -(-(-(1)))=1;", 3, 22);
        isFaulty("shut not not -(-(-(1)))=1 and not not 1=-(-(-(1)));", 0, -1);
        isFaulty("shut not not not -(-((1)))=-(-((1)));", 0, -1);
        isFaulty("worth (1)+(2)+(3)+(4)+(5)+(6)+(7)+(8)+(9)+(10);", 0, -1);
        isFaulty("worth -1-1-1-1-1-1-1-1-1-1-1*-1*-1*-1;", 0, -1);
        isFaulty("worth ((((((((not", 1, 14);
        isFaulty("worth ((((((((+", 1, 14);
        isFaulty("worth (((((((((", 3, 14);
        isFaulty("shut 1=1 and not not not not not not not not (1)=1;", 3, 45);
    }

    private static String times(String clause, int n) {
        return clause.repeat(n);
    }

    private static void faultsOfClauses() {
        isFaulty("shut 1=1;shut 1=1;", 4, 9);
        isFaulty("worth 1;worth 1;", 4, 8);
        isFaulty("yes 1=1;worth 1;yes 1=1;", 4, 16);
        isFaulty("whose 1 1=1;whose 1 1=1;", 0, -1);
        isFaulty("shut heard=1;", 5, 5);
        isFaulty("shut 1=ask;", 5, 7);
        isFaulty("worth kin;", 5, 6);
        isFaulty("whose 1 heard=1;", 5, 8);
        isFaulty("whose 1 ask=1;", 5, 8);
        isFaulty("whose 1 kin=1;", 5, 8);
        isFaulty("whose 1 gas=1;", 5, 8);
        isFaulty("whose 1 cracks=1;", 5, 8);
        isFaulty("whose 1 size=1;", 5, 8);
        isFaulty("whose 1 week=people;", 0, -1);
        isFaulty("shut gas+cracks+size+week+people=1;worth gas+cracks+size+week+people;", 0, -1);
        isFaulty("yes gas+cracks+size+week+people+heard+ask+kin=1;", 0, -1);
        isFaulty("yes 1=1;shut kin=1;", 5, 13);
        isFaulty("shut 1 heard", 1, 7);
        isFaulty(times("whose 1 1=1;", 20), 0, -1);
        isFaulty(times("whose 1 1=1;", 20) + "worth 1;", 6, 240);
        isFaulty(times("whose 1 1=1;", 19) + "worth 1; worth 1;", 4, 237);
        isFaulty(times("whose 1 1=1;", 20) + "oh", 1, 240);
        isFaulty(times("whose 1 1=1;", 20) + " \n ", 0, -1);
        isFaulty("worth " + times("1+", 146) + "1;", 0, -1);
        isFaulty(times(";", 300), 1, 0);
        isFaulty(times(" ", 299) + "x", 1, 299);
        isFaulty(times(" ", 299) + "<", 1, 299);
        isFaulty(times(" ", 300), 0, -1);
        isFaulty("worth " + times("1+", 147), 1, 300);
        isFaulty("worth " + times("-1", 147), 1, 300);
        isFaulty("worth " + times("x", 294), 1, 6);
        isFaulty("worth " + times("0", 294), 1, 300);
        isFaulty("worth 1" + times("0", 293), 2, 6);
    }

    private static void fault() {
        SeamFire x = new SeamFire(2, 2);
        due.is("ahead of any", -1, x.fault(0));
        due.is("its place", -1, x.fault(1));
        Due.act(x, "yes 1=1;");
        due.is("none", 0, x.fault(0));
        due.is("no place", -1, x.fault(1));
        Due.act(x, "yes 1=1; ?");
        due.is("1", 1, x.fault(0));
        due.is("at 9", 9, x.fault(1));
        Due.act(x, "yes 1=1;");
        due.is("none again", 0, x.fault(0));
        due.is("no place again", -1, x.fault(1));
        due.is("fault(2)", -1, x.fault(2));
        due.is("fault(-1)", -1, x.fault(-1));
        x.image();
        Due.act(x, "worth 10000;");
        x.back();
        due.is("it isn't in the image", 2, x.fault(0));
        due.is("nor its place", 6, x.fault(1));
    }

    /** What a sum comes to, in week 3 above a house of cracks 2 and size 5, with two there. */
    private static int valueOf(String sum) {
        SeamFire x = new SeamFire(2, 2);
        x.house(0, 2, 5);
        x.person(0, 1, 30);
        x.person(0, 1, 40);
        int act = Due.act(x, "worth " + sum + ";");
        due.is("act of " + sum, 0, act);
        x.force(act, 0, 99);
        return x.by(0, 3, 1);
    }

    private static void tokens() {
        due.is("3", 3, valueOf("week"));
        due.is("2", 2, valueOf("cracks"));
        due.is("5", 5, valueOf("size"));
        due.is("2", 2, valueOf("people"));
        due.is("0", 0, valueOf("gas"));
        due.is("0012", 12, valueOf("0012"));
        due.is("no blanks", 21, valueOf("size*cracks*cracks+1"));
    }

    private static void values() {
        due.is("from the left", 5, valueOf("10-3-2"));
        due.is("* first", 14, valueOf("2+3*4"));
        due.is("( )", 20, valueOf("(2+3)*4"));
        due.is("from the left", 20, valueOf("100/10*2"));
        due.is("cut", 3, valueOf("7/2"));
        due.is("cut towards 0", 3, valueOf("0-(0-7)/2"));
        due.is("- of one", 3, valueOf("-(-7/2)"));
        due.is("by 0", 1, valueOf("5/0+1"));
        due.is("by a sum of 0", 1, valueOf("5/(3-week)+1"));
        due.is("0 at least", 0, valueOf("3-9"));
        due.is("- binds closest", 4, valueOf("-2*-2"));
        due.is("- - ", 12, valueOf("10--2"));
        due.is("the limit", 1000000000, valueOf("9999*9999*9999"));
        due.is("at each step", 999990001, valueOf("9999*9999*9999-9999"));
        due.is("then divided", 100010, valueOf("9999*9999*9999/9999"));
        due.is("below", 1000000000 - 5, valueOf("-(0-9999*9999*9999-9999)-5"));
        due.is("below the same less", 5, valueOf("(0-9999*9999*9999-9999)+9999*9999*9999+5"));
        due.is("just below it", 999999999, valueOf("9999*9999*10+9999*20+9"));
        due.is("just at it", 1000000000, valueOf("9999*9999*10+9999*20+10"));
        due.is("just above it", 999999999, valueOf("9999*9999*10+9999*20+11-1"));
        due.is("- of the limit", 1000000000, valueOf("--(9999*9999*9999)"));
        due.is("a sum above it", 1000000000, valueOf("9999*9999*10+9999*9999*10"));
    }

    private static void isSo(boolean want, String either) {
        SeamFire x = new SeamFire(2, 2);
        int act = Due.act(x, "whose 7 " + either + ";");
        due.is("act of " + either, 0, act);
        x.force(act, 0, 99);
        due.is(either, want ? 7 : -1, x.whose(3));
    }

    private static void asked() {
        String[] signs = {"<", "<=", ">", ">=", "=", "#"};
        boolean[][] want = {{true, false, false}, {true, true, false}, {false, false, true}, {false, true, true},
            {false, true, false}, {true, false, true}};
        for (int i = 0; i < signs.length; i++) {
            for (int a = 1; a <= 3; a++) {
                isSo(want[i][a - 1], a + signs[i] + "2");
                isSo(want[i][a - 1], "-4+" + a + " " + signs[i] + " -2");
                isSo(!want[i][a - 1], "not " + a + signs[i] + "2");
                isSo(want[i][a - 1], "not not " + a + signs[i] + "2");
            }
        }
        isSo(true, "1=2 or 1=1");
        isSo(true, "1=1 or 1=2");
        isSo(false, "1=2 or 1=3");
        isSo(false, "1=2 and 1=1");
        isSo(false, "1=1 and 1=2");
        isSo(true, "1=1 and 2=2");
        isSo(true, "1=1 or 1=1 and 1=2");
        isSo(true, "1=2 and 1=1 or 1=1");
        isSo(false, "1=2 and 1=1 or 1=1 and 1=3");
        isSo(false, "not 1=1 and 1=2");
        isSo(true, "not 1=1 or 1=1");
        isSo(true, "not 1=2 and 1=1");
        isSo(true, "1=2 or 1=2 or 1=2 or 5>4");
        isSo(true, "week = 3");
        isSo(true, "people = 0");
    }

    private static void force() {
        SeamFire x = new SeamFire(2, 2);
        due.is("no act", -1, x.force(0, 0, 0));
        Due.act(x, "worth 7;");
        x.house(0, 1, 1);
        x.weeks(5);
        int[][] wrong = {{-1, 5, 9}, {1, 5, 9}, {0, 4, 9}, {0, -1, 9}, {0, 5, 100}, {0, 100, 100}, {0, 9, 8},
            {0, 5, 4}};
        for (int[] f : wrong) {
            due.is("force", -1, x.force(f[0], f[1], f[2]));
        }
        due.is("one week", 0, x.force(0, 7, 7));
        due.is("ahead", 100, x.by(0, 6, 1));
        due.is("then", 7, x.by(0, 7, 1));
        due.is("behind", 100, x.by(0, 8, 1));
        for (int i = 1; i < 30; i++) {
            due.is("force", i, x.force(0, 5, 99));
        }
        due.is("the 31st", -1, x.force(0, 5, 99));
        due.is("how many", 30, x.about(11));
        due.is("from the clock's", 7, x.by(0, 5, 1));
        due.is("to the last", 7, x.by(0, 99, 1));
        for (int i = 0; i < 5; i++) {
            x.weeks(19);
        }
        due.is("clock", 100, x.about(0));
        due.is("at 100", -1, x.force(0, 100, 100));
    }

    private static void forceLatest() {
        SeamFire x = new SeamFire(2, 2);
        x.house(0, 1, 1);
        Due.act(x, "worth 10;");
        Due.act(x, "worth 20;shut 1=1;");
        Due.act(x, "whose 4 1=1;");
        x.force(1, 0, 50);
        x.force(0, 10, 20);
        x.force(2, 0, 99);
        due.is("of those that hold", 20, x.by(0, 9, 1));
        due.is("the one told latest", 10, x.by(0, 10, 1));
        due.is("to the end", 10, x.by(0, 20, 1));
        due.is("behind", 20, x.by(0, 21, 1));
        due.is("that has such a clause", 2, x.by(0, 15, 0));
        due.is("the other", 4, x.whose(15));
        x.force(1, 0, 99);
        due.is("told again", 20, x.by(0, 15, 1));
    }

    private static SeamFire town() {
        SeamFire x = new SeamFire(4, 2);
        for (int c = 0; c < 8; c++) {
            x.cell(c, 1, 500);
        }
        x.state(0, 0);
        x.state(3, 0);
        x.house(0, 2, 5);
        x.house(3, 3, 4);
        return x;
    }

    private static void shut() {
        SeamFire x = town();
        due.is("without an act", 0, x.by(0, 0, 0));
        due.is("least", 2, x.gas(0, 0, false));
        due.is("greatest", 8, x.gas(0, 0, true));
        String[] texts = {"gas>1", "gas>2", "gas<8", "gas>8", "gas=2 or gas=8", "cracks=2", "size=5", "week=0",
            "people=1"};
        int[] want = {2, 1, 1, 0, 2, 2, 2, 2, 2};
        x.person(0, 1, 1);
        for (int i = 0; i < texts.length; i++) {
            SeamFire y = town();
            y.person(0, 1, 1);
            Due.act(y, "shut " + texts[i] + ";");
            y.force(0, 0, 99);
            due.is(texts[i], want[i], y.by(0, 0, 0));
        }
        Due.act(x, "shut gas>5;");
        x.force(0, 0, 98);
        due.is("the other house", 1, x.by(1, 0, 0));
        x.read(0, 0, true);
        due.is("by both", 2, x.by(0, 0, 0));
        due.is("by none", 0, x.by(1, 0, 0));
        due.is("another week", 2, x.by(0, 98, 0));
        due.is("no act in 99", 0, x.by(0, 99, 0));
        due.is("house -1", -1, x.by(-1, 0, 0));
        due.is("house 2", -1, x.by(2, 0, 0));
        due.is("week -1", -1, x.by(0, -1, 0));
        due.is("week 100", -1, x.by(0, 100, 0));
        due.is("what -1", -1, x.by(0, 0, -1));
        due.is("what 3", -1, x.by(0, 0, 3));
    }

    private static void worth() {
        SeamFire x = town();
        due.is("without an act", 500, x.by(0, 0, 1));
        due.is("without an act or gas", 400, x.by(1, 0, 2));
        Due.act(x, "worth 100-gas*10+people;");
        x.force(0, 0, 50);
        due.is("by the greatest", 20, x.by(0, 0, 1));
        due.is("as if there were none", 100, x.by(0, 0, 2));
        due.is("0 at least", 0, x.by(1, 0, 1));
        x.person(0, 1, 0);
        x.person(0, 1, 0);
        x.person(1, 1, 0);
        due.is("people of the house", 22, x.by(0, 0, 1));
        x.read(3, 0, true);
        due.is("of those let", 82, x.by(0, 0, 1));
        x.offer(0, 0, 0);
        x.weeks(1);
        due.is("people there now", 80, x.by(0, 0, 1));
        due.is("behind the force", 500, x.by(0, 51, 1));
    }

    private static void whose() {
        SeamFire x = town();
        due.is("without an act", -1, x.whose(0));
        Due.act(x, "whose 3 week>5;whose 0 people=2;worth 1;whose 5 week=7;");
        x.force(0, 0, 50);
        due.is("none is so", -1, x.whose(0));
        due.is("the first", 3, x.whose(6));
        due.is("the first of two", 3, x.whose(7));
        x.person(0, 1, 0);
        x.person(1, 1, 9);
        due.is("people of all houses", 0, x.whose(0));
        x.offer(0, 0, 0);
        x.weeks(1);
        due.is("one went", -1, x.whose(0));
        x.person(0, 1, 9);
        due.is("another came", 0, x.whose(0));
        due.is("behind the force", -1, x.whose(51));
        due.is("week -1", -1, x.whose(-1));
        due.is("week 100", -1, x.whose(100));
        Due.act(x, "whose 8 1=2;");
        x.force(1, 1, 50);
        due.is("the latest alone is asked", -1, x.whose(6));
    }

    private static void vote() {
        SeamFire x = town();
        due.is("nobody yes", 0, x.vote(0, 0));
        due.is("nobody no", 0, x.vote(0, 1));
        due.is("nobody's gift", -1, x.vote(0, 2));
        x.person(0, 1, 100);
        x.person(0, 2, 200);
        x.person(1, 3, 300);
        due.is("without an act no", 3, x.vote(0, 1));
        String[] texts = {"heard=2", "ask>=200", "kin#2", "gas=8", "gas=12", "cracks=3", "size=5", "people=2",
            "week=4", "kin=1 or kin=3", "1=1", "1=2"};
        int[] yes = {1, 2, 2, 2, 1, 1, 2, 2, 0, 2, 3, 0};
        for (int i = 0; i < texts.length; i++) {
            SeamFire y = town();
            y.person(0, 1, 100);
            y.person(0, 2, 200);
            y.person(1, 3, 300);
            y.hears(1, 2);
            Due.act(y, "yes " + texts[i] + ";");
            y.force(0, 0, 98);
            due.is("yes " + texts[i], yes[i], y.vote(0, 0));
            due.is("no " + texts[i], 3 - yes[i], y.vote(0, 1));
            due.is("without an act", 0, y.vote(99, 0));
        }
        x.offer(0, 100, 0);
        x.weeks(1);
        due.is("who went doesn't vote", 2, x.vote(0, 1));
        due.is("week -1", -1, x.vote(-1, 0));
        due.is("week 100", -1, x.vote(100, 0));
        due.is("what -1", -1, x.vote(0, -1));
        due.is("what 3", -1, x.vote(0, 3));
    }

    private static void gift() {
        SeamFire x = town();
        Due.act(x, "yes kin=1;");
        x.force(0, 0, 99);
        x.person(0, 0, 700);
        due.is("one no", 700, x.vote(0, 2));
        x.person(0, 1, 5);
        due.is("one to one doesn't carry", 700, x.vote(0, 2));
        x.person(0, 1, 5);
        due.is("it carries", 0, x.vote(0, 2));
        x.person(0, 2, 300);
        due.is("two to two", 300, x.vote(0, 2));
        x.person(0, 2, 0);
        due.is("two to three", 0, x.vote(0, 2));
        x.person(0, 2, 200);
        due.is("two to four", 200, x.vote(0, 2));
        x.person(0, 2, 300);
        due.is("two to five", 200, x.vote(0, 2));
        x.person(0, 2, 9999);
        due.is("two to six", 500, x.vote(0, 2));
        for (int i = 0; i < 52; i++) {
            x.person(1, 3, 9999);
        }
        due.is("2 to 58: 29 must turn", 0 + 200 + 300 + 300 + 700 + 24 * 9999, x.vote(0, 2));
        due.is("asked again", 241476, x.vote(0, 2));
    }
}
