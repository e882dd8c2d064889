import java.util.Random;

/** Long mixed runs of calls, whose answers are those of the plain model. */
public final class AgainstPlainTest {
    private static final int RUNS = 150;
    /** An object is used for 512 calls at most, and one step of a run makes up to a hundred. */
    private static final int LAST_STEP = 390;
    private static final String[] WORDS = {"shut", "worth", "whose", "yes", "or", "and", "not", "gas", "cracks",
        "size", "week", "people", "heard", "ask", "kin", "<", "<=", ">", ">=", "=", "#", "+", "-", "*", "/", "(",
        ")", ";", "0", "1", "7", "9", "10", "9999", "10000", "?", "Shut", "\n", "weeks", "99999999999999999999"};

    private final Random random;
    private final SeamFire x;
    private final Plain plain;
    private final int cells;
    /** Some runs stay at clock 0 for long, where cells may be told again behind all that was done. */
    private final boolean early;
    private final StringBuilder log = new StringBuilder();
    private int used;

    private AgainstPlainTest(long seed) {
        random = new Random(seed);
        int w = pick(1, 9);
        int h = pick(1, 9);
        x = new SeamFire(w, h);
        plain = new Plain(w, h);
        cells = x.about(1) * x.about(2);
        early = random.nextInt(4) == 0;
        log.append("new SeamFire(" + w + ", " + h + ")\n");
    }

    private int pick(int a, int b) {
        return a + random.nextInt(b - a + 1);
    }

    /** Mostly from a to b, sometimes just beside, seldom far away. */
    private int about(int a, int b) {
        int die = random.nextInt(90);
        if (die == 0) {
            return a - 1;
        }
        if (die == 1) {
            return b + 1;
        }
        if (die == 2) {
            return random.nextBoolean() ? Integer.MIN_VALUE : Integer.MAX_VALUE;
        }
        return a > b ? a : die < 6 ? (random.nextBoolean() ? a : b) : pick(a, b);
    }

    private int cell() {
        return about(0, cells - 1);
    }

    /** Mostly a cell of a kind. */
    private int cellOf(int kind, int orKind) {
        int c = cell();
        for (int i = 0; i < 20 && c >= 0 && c < cells; i++) {
            if (plain.t.kind[c] == kind || plain.t.kind[c] == orKind) {
                return c;
            }
            c = cell();
        }
        return c;
    }

    private int week() {
        return random.nextInt(3) == 0 ? about(0, 99) : about(0, Math.min(99, plain.t.clock + 10));
    }

    private void due(String call, long want, long got) {
        used++;
        log.append(call).append(" -> ").append(got).append('\n');
        if (want != got) {
            System.out.println(log);
            System.out.println(call + " answered " + got + ", due is " + want);
            System.exit(1);
        }
    }

    private static long bit(boolean b) {
        return b ? 1 : 0;
    }

    private String number() {
        return String.valueOf(random.nextInt(4) == 0 ? pick(0, 9999) : pick(0, 12));
    }

    private String one(String sort, int depth) {
        int die = random.nextInt(depth > 3 ? 6 : 9);
        if (die < 2) {
            return number();
        }
        if (die < 6) {
            int from = sort.equals("whose") ? 10 : 7;
            int to = sort.equals("yes") ? 14 : 11;
            return WORDS[pick(from, to)];
        }
        if (die == 6) {
            return "-" + one(sort, depth + 1);
        }
        return "(" + sum(sort, depth + 1) + ")";
    }

    private String sum(String sort, int depth) {
        StringBuilder s = new StringBuilder(one(sort, depth));
        while (random.nextInt(3) == 0) {
            s.append("+-*/".charAt(random.nextInt(4))).append(one(sort, depth));
        }
        return s.toString();
    }

    private String asked(String sort) {
        String not = random.nextInt(4) == 0 ? "not " : "";
        return not + sum(sort, 0) + " " + WORDS[pick(15, 20)] + sum(sort, 0);
    }

    private String clause(String sort) {
        if (sort.equals("worth")) {
            return "worth " + sum(sort, 0) + ";";
        }
        StringBuilder s = new StringBuilder(sort);
        s.append(sort.equals("whose") ? " " + pick(0, 9) + " " : " ").append(asked(sort));
        while (random.nextInt(3) == 0) {
            s.append(random.nextBoolean() ? " or " : " and ").append(asked(sort));
        }
        return s.append(";").toString();
    }

    private String text() {
        StringBuilder s = new StringBuilder();
        String[] sorts = {"shut", "worth", "whose", "yes", "whose"};
        for (String sort : sorts) {
            if (random.nextInt(2) == 0) {
                s.append(clause(sort));
            }
        }
        if (random.nextInt(4) == 0) {
            int at = random.nextInt(s.length() + 1);
            s.insert(at, " " + WORDS[random.nextInt(WORDS.length)] + " ");
        }
        if (random.nextInt(12) == 0 && s.length() > 0) {
            s.deleteCharAt(random.nextInt(s.length()));
        }
        if (random.nextInt(12) == 0) {
            s.insert(random.nextInt(s.length() + 1), (char) random.nextInt(256));
        }
        if (random.nextInt(8) == 0) {
            s.setLength(0);
            int n = random.nextInt(30);
            for (int i = 0; i < n; i++) {
                s.append(WORDS[random.nextInt(WORDS.length)]).append(' ');
            }
        }
        s.setLength(Math.min(300, s.length()));
        return s.toString();
    }

    private void tellAct() {
        String text = text();
        due("end(0)", plain.end(0), x.end(0));
        byte[] bytes = text.getBytes(java.nio.charset.StandardCharsets.ISO_8859_1);
        for (int i = 0; i < bytes.length; i += 20) {
            int[] five = new int[5];
            for (int k = 0; k < 5; k++) {
                five[k] = Due.word(bytes, i + 4 * k);
            }
            due("feed(..)", plain.feed(five[0], five[1], five[2], five[3], five[4]),
                    x.feed(five[0], five[1], five[2], five[3], five[4]));
        }
        due("end(" + bytes.length + ") " + text, plain.end(bytes.length), x.end(bytes.length));
        due("act()", plain.act(), x.act());
        due("fault(0)", plain.fault(0), x.fault(0));
        due("fault(1)", plain.fault(1), x.fault(1));
        int from = about(plain.t.clock, 99);
        int to = random.nextInt(3) == 0 ? about(Math.max(0, Math.min(99, from)), 99) : 99;
        int act = about(0, plain.t.acts.size() - 1);
        due("force(" + act + ", " + from + ", " + to + ")", plain.force(act, from, to), x.force(act, from, to));
    }

    private void tellSeam() {
        int coal = random.nextInt(3);
        for (int c = 0; c < cells; c++) {
            int kind = coal == 0 ? pick(0, 4) : random.nextInt(3) == 0 ? 3 : pick(1, 2);
            int tons = kind == 1 || kind == 2 ? pick(1, random.nextInt(3) == 0 ? 300 : 30) : 0;
            due("cell(" + c + ", " + kind + ", " + tons + ")", bit(plain.cell(c, kind, tons)),
                    bit(x.cell(c, kind, tons)));
        }
        int heat = pick(1, 3);
        int rate = pick(1, 12);
        int draw = pick(0, 8);
        due("rules(" + heat + ", " + rate + ", " + draw + ")", bit(plain.rules(heat, rate, draw)),
                bit(x.rules(heat, rate, draw)));
    }

    /** A town above a fire, so that the calls that follow have much to tell. */
    private void furnish() {
        for (int i = pick(1, 9); i > 0; i--) {
            int c = cellOf(1, 2);
            int week = pick(0, 3);
            due("state(" + c + ", " + week + ")", plain.state(c, week), x.state(c, week));
        }
        for (int i = pick(1, 14); i > 0; i--) {
            int c = cell();
            due("hole(" + c + ")", plain.hole(c), x.hole(c));
        }
        for (int i = pick(0, 6); i > 0; i--) {
            int c = cellOf(3, 3);
            int cost = pick(0, 30);
            due("place(" + c + ", " + cost + ")", plain.place(c, cost), x.place(c, cost));
        }
        for (int i = pick(1, 5); i > 0; i--) {
            int c = cell();
            int cracks = pick(1, 9);
            int size = pick(1, 9);
            due("house(" + c + ", " + cracks + ", " + size + ")", plain.house(c, cracks, size),
                    x.house(c, cracks, size));
        }
        for (int i = pick(0, 15); i > 0; i--) {
            int house = about(0, plain.t.houses.size() - 1);
            int kin = pick(0, 3);
            int ask = pick(0, 900);
            due("person(" + house + ", " + kin + ", " + ask + ")", plain.person(house, kin, ask),
                    x.person(house, kin, ask));
        }
        for (int i = pick(0, 4); i > 0; i--) {
            tellAct();
        }
        due("image()", plain.image(), x.image());
    }

    private void run() {
        if (random.nextInt(12) > 0) {
            tellSeam();
            furnish();
        }
        int calls = pick(30, 250);
        for (int i = 0; i < calls && used < LAST_STEP; i++) {
            switch (random.nextInt(8)) {
                case 0: case 1: seamCall(); break;
                case 2: case 3: fireCall(); break;
                case 4: townCall(); break;
                case 5: lawCall(); break;
                default: knownCall(); break;
            }
        }
        for (int what = -1; what <= 14; what++) {
            due("about(" + what + ")", plain.about(what), x.about(what));
        }
    }

    private void seamCall() {
        int c = cell();
        int a = 0;
        int b = 0;
        switch (random.nextInt(11)) {
            case 0:
                if (!early && random.nextInt(3) > 0) {
                    break;
                }
                a = early ? about(1, 3) : about(0, 4);
                c = early ? cellOf(3, 3) : c;
                b = a == 1 || a == 2 ? about(1, 999) : about(0, 0);
                due("cell(" + c + ", " + a + ", " + b + ")", bit(plain.cell(c, a, b)), bit(x.cell(c, a, b)));
                break;
            case 1:
                if (random.nextInt(9) == 0) {
                    a = about(1, 20);
                    b = about(1, 99);
                    int d = about(0, 30);
                    due("rules(" + a + ", " + b + ", " + d + ")", bit(plain.rules(a, b, d)), bit(x.rules(a, b, d)));
                }
                break;
            case 2: case 3:
                due("hole(" + c + ")", plain.hole(c), x.hole(c));
                break;
            case 4:
                a = about(0, plain.t.holes.size() - 1);
                due("plug(" + a + ")", bit(plain.plug(a)), bit(x.plug(a)));
                break;
            case 5: case 6:
                a = random.nextInt(5) == 0 ? about(1, 1000) : about(1, 50);
                c = cellOf(3, 3);
                due("pour(" + c + ", " + a + ")", plain.pour(c, a), x.pour(c, a));
                break;
            case 7:
                for (int o = 0; early && o < cells; o++) {
                    due("fill(" + o + ")", plain.fill(o), x.fill(o));
                }
                due("fill(" + c + ")", plain.fill(c), x.fill(c));
                break;
            case 8: case 9:
                a = about(0, 3);
                b = random.nextInt(3) == 0 ? about(1, 8) : pick(1, 3);
                int e = about(1, 8);
                due("trench(" + c + ", " + a + ", " + b + ", " + e + ")", plain.trench(c, a, b, e),
                        x.trench(c, a, b, e));
                break;
            default:
                if (early && random.nextInt(8) > 0) {
                    break;
                }
                a = random.nextInt(3) == 0 ? about(1, 20) : 1;
                due("weeks(" + a + ")", plain.weeks(a), x.weeks(a));
                break;
        }
    }

    private void fireCall() {
        int s = about(0, plain.t.states.size() - 1);
        int week = week();
        int c = cell();
        int a = 0;
        switch (random.nextInt(7)) {
            case 0: case 1:
                c = cellOf(1, 2);
                due("state(" + c + ", " + week + ")", plain.state(c, week), x.state(c, week));
                break;
            case 2: case 3:
                a = about(0, 3);
                due("burns(" + s + ", " + week + ", " + c + ", " + a + ")", plain.burns(s, week, c, a),
                        x.burns(s, week, c, a));
                break;
            case 4:
                due("lost(" + s + ", " + week + ")", plain.lost(s, week), x.lost(s, week));
                break;
            case 5:
                a = about(0, plain.t.holes.size() - 1);
                due("fed(" + s + ", " + week + ", " + a + ")", plain.fed(s, week, a), x.fed(s, week, a));
                break;
            default:
                a = about(0, plain.t.trenches.size() - 1);
                s = random.nextBoolean() ? -1 : s;
                due("inTime(" + a + ", " + s + ")", plain.inTime(a, s), x.inTime(a, s));
                break;
        }
    }

    private void knownCall() {
        int s = random.nextBoolean() ? -1 : about(0, plain.t.states.size() - 1);
        int week = week();
        int c = cell();
        int known = random.nextBoolean() ? plain.t.clock : about(0, 100);
        int a = 0;
        switch (random.nextInt(8)) {
            case 0:
                a = about(0, Math.min(99, plain.t.clock));
                // Mostly as one of the states has it, so that some states stay let.
                boolean burned = random.nextInt(20) == 0 ? random.nextBoolean() : plain.burns(0, a, c, 0) == 1;
                due("read(" + c + ", " + a + ", " + burned + ")", plain.read(c, a, burned), x.read(c, a, burned));
                break;
            case 1:
                due("let(" + s + ", " + known + ")", plain.let(s, known), x.let(s, known));
                break;
            case 2:
                due("span(" + c + ", " + week + ", " + known + ")", plain.span(c, week, known),
                        x.span(c, week, known));
                break;
            case 3:
                due("parts(" + week + ")", plain.parts(week), x.parts(week));
                break;
            case 4:
                a = about(0, random.nextBoolean() ? 9999 : 20);
                c = cellOf(3, 3);
                due("place(" + c + ", " + a + ")", plain.place(c, a), x.place(c, a));
                break;
            case 5:
                a = random.nextBoolean() ? about(0, 99999) : pick(0, 100);
                week = about(plain.t.clock, Math.min(99, plain.t.clock + 30));
                for (int what = 0; what < 3; what++) {
                    due("best(" + a + ", " + week + ", " + what + ")", plain.best(a, week, what),
                            x.best(a, week, what));
                }
                a = about(0, 2);
                due("best(99999, " + week + ", " + a + ")", plain.best(99999, week, a), x.best(99999, week, a));
                break;
            case 6:
                if (random.nextInt(4) == 0) {
                    due("image()", plain.image(), x.image());
                }
                break;
            default:
                if (random.nextInt(8) == 0) {
                    due("back()", plain.back(), x.back());
                }
                break;
        }
    }

    private void townCall() {
        int house = about(0, plain.t.houses.size() - 1);
        int person = about(0, plain.t.people.size() - 1);
        int week = week();
        int a = 0;
        int b = 0;
        switch (random.nextInt(9)) {
            case 0: case 1:
                a = about(0, 9);
                b = about(1, 9);
                int c = cell();
                due("house(" + c + ", " + a + ", " + b + ")", plain.house(c, a, b), x.house(c, a, b));
                break;
            case 2: case 3: case 4:
                a = random.nextBoolean() ? pick(0, 2) : about(0, 9);
                b = random.nextBoolean() ? pick(0, 1500) : about(0, 9999);
                due("person(" + house + ", " + a + ", " + b + ")", plain.person(house, a, b), x.person(house, a, b));
                break;
            case 5:
                a = about(0, 9);
                due("hears(" + person + ", " + a + ")", bit(plain.hears(person, a)), bit(x.hears(person, a)));
                break;
            case 6:
                a = random.nextBoolean() ? pick(0, 800) : about(0, 9999);
                b = random.nextBoolean() ? plain.t.clock + 1 : about(plain.t.clock, 99);
                due("offer(" + house + ", " + a + ", " + b + ")", bit(plain.offer(house, a, b)),
                        bit(x.offer(house, a, b)));
                break;
            case 7:
                a = random.nextBoolean() ? pick(0, 300) : about(0, 999);
                due("pull(" + a + ")", bit(plain.pull(a)), bit(x.pull(a)));
                break;
            default:
                due("gone(" + person + ")", plain.gone(person), x.gone(person));
                boolean high = random.nextBoolean();
                due("gas(" + house + ", " + week + ", " + high + ")", plain.gas(house, week, high),
                        x.gas(house, week, high));
                break;
        }
    }

    private void lawCall() {
        int house = about(0, plain.t.houses.size() - 1);
        int week = week();
        int what = about(0, 2);
        switch (random.nextInt(6)) {
            case 0:
                tellAct();
                break;
            case 1:
                due("whose(" + week + ")", plain.whose(week), x.whose(week));
                break;
            case 2:
                due("vote(" + week + ", " + what + ")", plain.vote(week, what), x.vote(week, what));
                break;
            case 3:
                int n = about(0, plain.tape.size());
                due("end(" + n + ")", plain.end(n), x.end(n));
                int[] f = {random.nextInt(), random.nextInt(), random.nextInt(), random.nextInt(), random.nextInt()};
                due("feed(?)", plain.feed(f[0], f[1], f[2], f[3], f[4]), x.feed(f[0], f[1], f[2], f[3], f[4]));
                due("fault(" + what + ")", plain.fault(what), x.fault(what));
                break;
            default:
                due("by(" + house + ", " + week + ", " + what + ")", plain.by(house, week, what),
                        x.by(house, week, what));
                break;
        }
    }

    public static void main(String[] args) {
        int runs = args.length > 0 ? Integer.parseInt(args[0]) : RUNS;
        int first = args.length > 1 ? Integer.parseInt(args[1]) : 0;
        for (int i = first; i < first + runs; i++) {
            new AgainstPlainTest(i).run();
        }
        System.out.println("AgainstPlainTest: " + runs + " runs are as the plain model has them");
    }
}
