import java.util.ArrayDeque;
import java.util.ArrayList;
import java.util.Arrays;
import java.util.Collections;
import java.util.List;

/**
 * The document a second time, as plainly as it can be written: nothing is kept between calls but
 * what was told, and each answer is worked out anew from the beginning.
 */
final class Plain {
    static final int NONE = -1;

    /** All that an image holds. */
    static final class Told {
        int clock;
        int[] kind;
        int[] tons;
        int[] fill;
        int heat = 3;
        int rate = 10;
        int draw = 6;
        int pours;
        int pull;
        /** Fill as it was after each week that went by; its size is the clock. */
        List<int[]> fillAfter = new ArrayList<>();
        List<int[]> holes = new ArrayList<>();
        List<int[]> trenches = new ArrayList<>();
        List<int[]> states = new ArrayList<>();
        List<int[]> readings = new ArrayList<>();
        List<int[]> houses = new ArrayList<>();
        List<int[]> people = new ArrayList<>();
        List<List<Clause>> acts = new ArrayList<>();
        List<int[]> forces = new ArrayList<>();
        List<int[]> places = new ArrayList<>();

        Told copy() {
            Told t = new Told();
            t.clock = clock;
            t.kind = kind.clone();
            t.tons = tons.clone();
            t.fill = fill.clone();
            t.heat = heat;
            t.rate = rate;
            t.draw = draw;
            t.pours = pours;
            t.pull = pull;
            t.fillAfter = deep(fillAfter);
            t.holes = deep(holes);
            t.trenches = deep(trenches);
            t.states = deep(states);
            t.readings = deep(readings);
            t.houses = deep(houses);
            t.people = deep(people);
            t.acts = new ArrayList<>(acts);
            t.forces = deep(forces);
            t.places = deep(places);
            return t;
        }

        private static List<int[]> deep(List<int[]> rows) {
            List<int[]> copy = new ArrayList<>();
            for (int[] row : rows) {
                copy.add(row.clone());
            }
            return copy;
        }
    }

    /** A part of a clause that has a value. */
    interface Part {
        long of(int[] names);
    }

    static final class Clause {
        String sort;
        int owner = NONE;
        Part part;
    }

    /** The fault that ends a reading. */
    static final class Faulty extends RuntimeException {
        private static final long serialVersionUID = 1L;
        final int kind;
        final int place;

        Faulty(int kind, int place) {
            this.kind = kind;
            this.place = place;
        }
    }

    /** How all is at the beginning of each week, by one state. */
    static final class Course {
        int[][] status = new int[100][];
        int[][] tons = new int[100][];
        int[][] heat = new int[100][];
        int[][] ahead = new int[100][];
        boolean[][] air = new boolean[100][];
    }

    final int w;
    final int h;
    final int[][] beside;
    Told t = new Told();
    Told kept;
    List<Integer> tape = new ArrayList<>();
    int fault = NONE;
    int faultAt = NONE;

    Plain(int width, int height) {
        w = width < 2 ? 2 : width > 8 ? 8 : width;
        h = height < 2 ? 2 : height > 8 ? 8 : height;
        t.kind = new int[w * h];
        t.tons = new int[w * h];
        t.fill = new int[w * h];
        kept = t.copy();
        beside = new int[w * h][];
        for (int c = 0; c < w * h; c++) {
            beside[c] = cellsBeside(c);
        }
    }

    private boolean ok(int v, int a, int b) {
        return a <= v && v <= b;
    }

    private boolean isCell(int c) {
        return ok(c, 0, w * h - 1);
    }

    private int[] neighbours(int c) {
        return beside[c];
    }

    private int[] cellsBeside(int c) {
        List<Integer> list = new ArrayList<>();
        for (int o = 0; o < w * h; o++) {
            if (away(c, o) == 1) {
                list.add(o);
            }
        }
        return list.stream().mapToInt(Integer::intValue).toArray();
    }

    private int away(int a, int b) {
        return Math.abs(a % w - b % w) + Math.abs(a / w - b / w);
    }

    boolean cell(int c, int kind, int tons) {
        boolean coal = kind == 1 || kind == 2;
        if (t.clock > 0 || !isCell(c) || !ok(kind, 0, 4) || !(coal ? ok(tons, 1, 999) : tons == 0)) {
            return false;
        }
        t.kind[c] = kind;
        t.tons[c] = tons;
        return true;
    }

    boolean rules(int heat, int rate, int draw) {
        if (!ok(heat, 1, 20) || !ok(rate, 1, 99) || !ok(draw, 0, 30)) {
            return false;
        }
        t.heat = heat;
        t.rate = rate;
        t.draw = draw;
        return true;
    }

    int hole(int c) {
        if (!isCell(c) || t.clock == 100 || t.holes.size() == 20) {
            return NONE;
        }
        t.holes.add(new int[] {c, t.clock, 1000});
        return t.holes.size() - 1;
    }

    boolean plug(int n) {
        if (!ok(n, 0, t.holes.size() - 1) || t.holes.get(n)[2] < 1000) {
            return false;
        }
        t.holes.get(n)[2] = t.clock;
        return true;
    }

    int pour(int c, int tons) {
        if (!isCell(c) || t.kind[c] != 3 || !ok(tons, 1, 1000) || t.clock == 100 || t.pours == 40) {
            return NONE;
        }
        t.pours++;
        int[] far = new int[w * h];
        Arrays.fill(far, 1000);
        far[c] = 0;
        ArrayDeque<Integer> queue = new ArrayDeque<>(List.of(c));
        while (!queue.isEmpty()) {
            int at = queue.poll();
            for (int o : neighbours(at)) {
                if (t.kind[o] == 3 && far[o] == 1000) {
                    far[o] = far[at] + 1;
                    queue.add(o);
                }
            }
        }
        int left = tons;
        for (int d = 0; d < 64; d++) {
            for (int o = 0; o < w * h; o++) {
                while (far[o] == d && left > 0 && t.fill[o] < 20) {
                    t.fill[o]++;
                    left--;
                }
            }
        }
        return left;
    }

    int fill(int c) {
        return isCell(c) ? t.fill[c] : NONE;
    }

    int trench(int c, int direction, int n, int each) {
        if (!isCell(c) || !ok(direction, 0, 3) || !ok(n, 1, 8) || !ok(each, 1, 8) || t.clock == 100
                || t.trenches.size() == 10) {
            return NONE;
        }
        int dx = direction == 0 ? 1 : direction == 1 ? -1 : 0;
        int dy = direction == 2 ? 1 : direction == 3 ? -1 : 0;
        int[] row = new int[2 * n];
        for (int i = 0; i < n; i++) {
            int x = c % w + dx * i;
            int y = c / w + dy * i;
            if (!ok(x, 0, w - 1) || !ok(y, 0, h - 1)) {
                return NONE;
            }
            row[2 * i] = y * w + x;
            row[2 * i + 1] = t.clock + i / each;
        }
        t.trenches.add(row);
        return t.trenches.size() - 1;
    }

    int state(int c, int week) {
        if (!isCell(c) || (t.kind[c] != 1 && t.kind[c] != 2) || !ok(week, 0, 99) || t.states.size() == 8) {
            return NONE;
        }
        t.states.add(new int[] {c, week});
        return t.states.size() - 1;
    }

    private boolean cutIn(int c, int week) {
        for (int[] row : t.trenches) {
            for (int i = 0; i < row.length; i += 2) {
                if (row[i] == c && row[i + 1] == week) {
                    return true;
                }
            }
        }
        return false;
    }

    /** Walls is a set of cells that have fill 20 from the clock's week on. */
    Course course(int s, int upTo, int without, List<Integer> walls) {
        int n = w * h;
        Course course = new Course();
        int[] tons = t.tons.clone();
        int[] heat = new int[n];
        int[] status = new int[n];
        boolean[] room = new boolean[n];
        boolean[] wasCut = new boolean[n];
        for (int c = 0; c < n; c++) {
            room[c] = t.kind[c] == 3;
        }
        for (int m = 0; m <= upTo; m++) {
            int own = t.states.get(s)[0];
            if (m == t.states.get(s)[1] && tons[own] > 0 && !wasCut[own]) {
                status[own] = 1;
            }
            course.ahead[m] = status.clone();
            for (int c = 0; c < n; c++) {
                if (cutIn(c, m)) {
                    wasCut[c] = true;
                    tons[c] = 0;
                    room[c] = false;
                    status[c] = 0;
                }
            }
            course.status[m] = status.clone();
            course.tons[m] = tons.clone();
            course.heat[m] = heat.clone();
            int[] fill = m == 0 ? new int[n] : m - 1 < t.fillAfter.size() ? t.fillAfter.get(m - 1) : t.fill;
            boolean[] open = new boolean[n];
            for (int c = 0; c < n; c++) {
                boolean full = fill[c] >= 20 || (m >= t.clock && walls.contains(c));
                open[c] = (room[c] && !full) || status[c] == 2;
            }
            course.air[m] = air(open, m, without);
            step(status, tons, heat, course.air[m]);
        }
        return course;
    }

    private boolean[] air(boolean[] open, int m, int without) {
        int n = w * h;
        int[] reached = new int[n];
        Arrays.fill(reached, 1000);
        for (int i = 0; i < t.holes.size(); i++) {
            int[] hole = t.holes.get(i);
            if (i != without && hole[1] <= m && m <= hole[2] - 1) {
                reached[hole[0]] = 0;
            }
        }
        for (int s = 0; s + 1 <= t.draw; s++) {
            for (int c = 0; c < n; c++) {
                if (reached[c] == s && (open[c] || s == 0)) {
                    for (int o : neighbours(c)) {
                        if (open[o] && reached[o] > s + 1) {
                            reached[o] = s + 1;
                        }
                    }
                }
            }
        }
        boolean[] air = new boolean[n];
        for (int c = 0; c < n; c++) {
            air[c] = reached[c] <= t.draw;
            if (!open[c]) {
                for (int o : neighbours(c)) {
                    air[c] |= open[o] && reached[o] < t.draw;
                }
            }
        }
        return air;
    }

    private void step(int[] status, int[] tons, int[] heat, boolean[] air) {
        int[] was = status.clone();
        for (int c = 0; c < w * h; c++) {
            if (was[c] == 1) {
                tons[c] -= Math.min(tons[c], air[c] ? t.rate : t.rate / 2);
                if (tons[c] == 0) {
                    status[c] = 2;
                }
            } else if (tons[c] > 0 && air[c]) {
                for (int o : neighbours(c)) {
                    heat[c] += was[o] == 1 ? 1 : 0;
                }
                if (heat[c] >= t.heat) {
                    status[c] = 1;
                }
            } else if (tons[c] > 0) {
                heat[c] = Math.max(0, heat[c] - 1);
            }
        }
    }

    private Course course(int s, int upTo) {
        return course(s, upTo, NONE, List.of());
    }

    int burns(int s, int week, int c, int what) {
        if (!ok(s, 0, t.states.size() - 1) || !ok(week, 0, 99) || !isCell(c) || !ok(what, 0, 3)) {
            return NONE;
        }
        Course course = course(s, week);
        return switch (what) {
            case 0 -> course.status[week][c];
            case 1 -> course.tons[week][c];
            case 2 -> course.heat[week][c];
            default -> course.air[week][c] ? 1 : 0;
        };
    }

    private int count(int[] status) {
        int n = 0;
        for (int v : status) {
            n += v > 0 ? 1 : 0;
        }
        return n;
    }

    int lost(int s, int week) {
        if (!ok(s, 0, t.states.size() - 1) || !ok(week, 0, 99)) {
            return NONE;
        }
        return count(course(s, week).status[week]);
    }

    int fed(int s, int week, int hole) {
        if (!ok(s, 0, t.states.size() - 1) || !ok(week, 0, 99) || !ok(hole, 0, t.holes.size() - 1)) {
            return -1000;
        }
        return lost(s, week) - count(course(s, week, hole, List.of()).status[week]);
    }

    private boolean timely(int trench, int s) {
        int[] row = t.trenches.get(trench);
        Course course = course(s, 99);
        for (int i = 0; i < row.length; i += 2) {
            if (row[i + 1] <= 99 && course.ahead[row[i + 1]][row[i]] > 0) {
                return false;
            }
        }
        return true;
    }

    int inTime(int trench, int s) {
        if (!ok(trench, 0, t.trenches.size() - 1) || !ok(s, NONE, t.states.size() - 1)) {
            return NONE;
        }
        if (s != NONE) {
            return timely(trench, s) ? 1 : 0;
        }
        int all = 0;
        int good = 0;
        for (int o : letBy(t.clock)) {
            all++;
            good += timely(trench, o) ? 1 : 0;
        }
        return all == 0 ? NONE : good == all ? 2 : good > 0 ? 1 : 0;
    }

    int read(int c, int week, boolean burned) {
        if (!isCell(c) || !ok(week, 0, Math.min(99, t.clock)) || t.readings.size() == 200) {
            return NONE;
        }
        t.readings.add(new int[] {c, week, burned ? 1 : 0, t.clock});
        return t.readings.size();
    }

    private List<Integer> letBy(int known) {
        List<Integer> list = new ArrayList<>();
        for (int s = 0; s < t.states.size(); s++) {
            Course course = course(s, Math.min(99, t.clock));
            boolean so = true;
            for (int[] r : t.readings) {
                so &= r[3] > known || (course.status[r[1]][r[0]] == 1) == (r[2] == 1);
            }
            if (so) {
                list.add(s);
            }
        }
        return list;
    }

    int let(int s, int known) {
        if (!ok(s, NONE, t.states.size() - 1) || !ok(known, 0, 100)) {
            return NONE;
        }
        List<Integer> list = letBy(known);
        return s == NONE ? list.size() : list.contains(s) ? 1 : 0;
    }

    int span(int c, int week, int known) {
        if (!isCell(c) || !ok(week, 0, 99) || !ok(known, 0, 100) || letBy(known).isEmpty()) {
            return NONE;
        }
        boolean all = true;
        boolean some = false;
        for (int s : letBy(known)) {
            boolean burns = course(s, week).status[week][c] == 1;
            all &= burns;
            some |= burns;
        }
        return all ? 2 : some ? 1 : 0;
    }

    int parts(int week) {
        if (!ok(week, 0, 99)) {
            return NONE;
        }
        int[] burn = new int[w * h];
        List<Integer> let = letBy(t.clock);
        for (int s : let) {
            int[] status = course(s, week).status[week];
            for (int c = 0; c < w * h; c++) {
                burn[c] += status[c] == 1 ? 1 : 0;
            }
        }
        int best = NONE;
        for (int c = w * h - 1; c >= 0; c--) {
            int lesser = Math.min(burn[c], let.size() - burn[c]);
            if (lesser > 0 && (best == NONE || lesser >= Math.min(burn[best], let.size() - burn[best]))) {
                best = c;
            }
        }
        return best;
    }

    int house(int c, int cracks, int size) {
        if (!isCell(c) || !ok(cracks, 0, 9) || !ok(size, 1, 9) || t.houses.size() == 20) {
            return NONE;
        }
        t.houses.add(new int[] {c, cracks, size, 0, NONE});
        return t.houses.size() - 1;
    }

    int gas(int house, int week, boolean high) {
        if (!ok(house, 0, t.houses.size() - 1) || !ok(week, 0, 99)) {
            return NONE;
        }
        List<Integer> all = new ArrayList<>();
        int[] row = t.houses.get(house);
        for (int s : letBy(t.clock)) {
            int sum = 0;
            int[] status = course(s, week).status[week];
            for (int c = 0; c < w * h; c++) {
                if (status[c] == 1 && away(c, row[0]) <= 3) {
                    sum += 4 - away(c, row[0]);
                }
            }
            all.add(sum * row[1]);
        }
        return all.isEmpty() ? 0 : high ? Collections.max(all) : Collections.min(all);
    }

    int person(int house, int kin, int ask) {
        if (!ok(house, 0, t.houses.size() - 1) || !ok(kin, 0, 9) || !ok(ask, 0, 9999) || t.people.size() == 60) {
            return NONE;
        }
        t.people.add(new int[] {house, kin, ask, 0, NONE});
        return t.people.size() - 1;
    }

    boolean hears(int p, int heard) {
        if (!ok(p, 0, t.people.size() - 1) || !ok(heard, 0, 9)) {
            return false;
        }
        t.people.get(p)[3] = heard;
        return true;
    }

    boolean offer(int house, int price, int till) {
        if (!ok(house, 0, t.houses.size() - 1) || !ok(price, 0, 9999) || !ok(till, t.clock, 99)) {
            return false;
        }
        t.houses.get(house)[3] = price;
        t.houses.get(house)[4] = till;
        return true;
    }

    boolean pull(int v) {
        if (!ok(v, 0, 999)) {
            return false;
        }
        t.pull = v;
        return true;
    }

    int gone(int p) {
        return ok(p, 0, t.people.size() - 1) ? t.people.get(p)[4] : NONE;
    }

    int weeks(int n) {
        if (!ok(n, 1, 20) || t.clock + n > 100) {
            return NONE;
        }
        for (int i = 0; i < n; i++) {
            boolean went = true;
            while (went) {
                went = false;
                for (int[] p : t.people) {
                    int[] house = t.houses.get(p[0]);
                    int kin = 0;
                    for (int[] o : t.people) {
                        kin += o[1] == p[1] && o[4] != NONE ? 1 : 0;
                    }
                    if (p[4] == NONE && house[4] >= t.clock && house[3] + p[3] * 100 + t.pull * kin >= p[2]) {
                        p[4] = t.clock;
                        went = true;
                    }
                }
            }
            t.fillAfter.add(t.fill.clone());
            t.clock++;
        }
        return t.clock;
    }

    int feed(int a, int b, int c, int d, int e) {
        if (tape.size() + 20 > 300) {
            return NONE;
        }
        for (int word : new int[] {a, b, c, d, e}) {
            for (int shift = 24; shift >= 0; shift -= 8) {
                tape.add(word >> shift & 255);
            }
        }
        return tape.size();
    }

    int end(int n) {
        if (!ok(n, 0, tape.size())) {
            return NONE;
        }
        tape = new ArrayList<>(tape.subList(0, n));
        return n;
    }

    int act() {
        if (t.acts.size() == 10) {
            return NONE;
        }
        StringBuilder text = new StringBuilder();
        for (int b : tape) {
            text.append((char) b);
        }
        tape.clear();
        fault = 0;
        faultAt = NONE;
        try {
            t.acts.add(new PlainText(text.toString()).clauses());
        } catch (Faulty f) {
            fault = f.kind;
            faultAt = f.place;
            return NONE;
        }
        return t.acts.size() - 1;
    }

    int fault(int what) {
        return what == 0 ? fault : what == 1 ? faultAt : NONE;
    }

    int force(int act, int from, int to) {
        if (!ok(act, 0, t.acts.size() - 1) || !ok(from, t.clock, 99) || !ok(to, from, 99) || t.forces.size() == 30) {
            return NONE;
        }
        t.forces.add(new int[] {act, from, to});
        return t.forces.size() - 1;
    }

    private List<Clause> inForce(String sort, int week) {
        List<Clause> found = new ArrayList<>();
        for (int[] f : t.forces) {
            List<Clause> such = new ArrayList<>();
            for (Clause c : t.acts.get(f[0])) {
                if (c.sort.equals(sort)) {
                    such.add(c);
                }
            }
            if (f[1] <= week && week <= f[2] && !such.isEmpty()) {
                found = such;
            }
        }
        return found;
    }

    private int there(int house) {
        int n = 0;
        for (int[] p : t.people) {
            n += p[4] == NONE && (house == NONE || p[0] == house) ? 1 : 0;
        }
        return n;
    }

    private int[] names(int house, int week, int gas) {
        int[] row = t.houses.get(house);
        return new int[] {gas, row[1], row[2], week, there(house), 0, 0, 0};
    }

    int by(int house, int week, int what) {
        if (!ok(house, 0, t.houses.size() - 1) || !ok(week, 0, 99) || !ok(what, 0, 2)) {
            return NONE;
        }
        List<Clause> found = inForce(what == 0 ? "shut" : "worth", week);
        if (found.isEmpty()) {
            return what == 0 ? 0 : t.houses.get(house)[2] * 100;
        }
        Part part = found.get(0).part;
        if (what == 0) {
            return (int) (part.of(names(house, week, gas(house, week, false)))
                    + part.of(names(house, week, gas(house, week, true))));
        }
        return (int) Math.max(0, part.of(names(house, week, what == 2 ? 0 : gas(house, week, true))));
    }

    int whose(int week) {
        if (ok(week, 0, 99)) {
            for (Clause c : inForce("whose", week)) {
                if (c.part.of(new int[] {0, 0, 0, week, there(NONE), 0, 0, 0}) == 1) {
                    return c.owner;
                }
            }
        }
        return NONE;
    }

    int vote(int week, int what) {
        if (!ok(week, 0, 99) || !ok(what, 0, 2)) {
            return NONE;
        }
        List<Clause> found = inForce("yes", week);
        int yes = 0;
        List<Integer> no = new ArrayList<>();
        for (int[] p : t.people) {
            if (p[4] == NONE) {
                boolean says = false;
                if (!found.isEmpty()) {
                    int[] names = names(p[0], week, gas(p[0], week, true));
                    names[5] = p[3];
                    names[6] = p[2];
                    names[7] = p[1];
                    says = found.get(0).part.of(names) == 1;
                }
                if (says) {
                    yes++;
                } else {
                    no.add(p[2]);
                }
            }
        }
        if (what < 2) {
            return what == 0 ? yes : no.size();
        }
        return yes + no.size() == 0 ? NONE : gift(yes, no);
    }

    /** Tries all sets where they are few, else turns the cheapest one by one. */
    private int gift(int yes, List<Integer> no) {
        if (no.size() > 10) {
            Collections.sort(no);
            int sum = 0;
            for (int n = 0; yes + n <= no.size() - n; n++) {
                sum += no.get(n);
            }
            return sum;
        }
        int least = Integer.MAX_VALUE;
        for (int set = 0; set < 1 << no.size(); set++) {
            int sum = 0;
            for (int i = 0; i < no.size(); i++) {
                sum += (set >> i & 1) * no.get(i);
            }
            if (yes + Integer.bitCount(set) > no.size() - Integer.bitCount(set)) {
                least = Math.min(least, sum);
            }
        }
        return least;
    }

    int place(int c, int cost) {
        if (!isCell(c) || t.kind[c] != 3 || !ok(cost, 0, 9999) || t.places.size() == 6) {
            return NONE;
        }
        t.places.add(new int[] {c, cost});
        return t.places.size() - 1;
    }

    int best(int coins, int week, int what) {
        if (!ok(coins, 0, 99999) || !ok(week, t.clock, Math.min(99, t.clock + 30)) || !ok(what, 0, 2)) {
            return NONE;
        }
        List<Integer> let = letBy(t.clock);
        int[] best = null;
        for (int set = 0; set < 1 << t.places.size() && !let.isEmpty(); set++) {
            int cost = 0;
            List<Integer> walls = new ArrayList<>();
            for (int i = 0; i < t.places.size(); i++) {
                if ((set >> i & 1) == 1) {
                    cost += t.places.get(i)[1];
                    walls.add(t.places.get(i)[0]);
                }
            }
            if (cost <= coins) {
                int greatest = 0;
                for (int s : let) {
                    greatest = Math.max(greatest, count(course(s, week, NONE, walls).status[week]));
                }
                int[] row = {greatest, cost, set};
                if (best == null || Arrays.compare(row, best) < 0) {
                    best = row;
                }
            }
        }
        return best == null ? NONE : best[2 - what];
    }

    int image() {
        kept = t.copy();
        return t.clock;
    }

    int back() {
        t = kept.copy();
        return t.clock;
    }

    int about(int what) {
        int went = 0;
        for (int[] p : t.people) {
            went += p[4] != NONE ? 1 : 0;
        }
        int[] all = {t.clock, w, h, t.holes.size(), t.trenches.size(), t.states.size(), t.readings.size(),
            t.houses.size(), t.people.size(), went, t.acts.size(), t.forces.size(), t.places.size(), tape.size()};
        return ok(what, 0, 13) ? all[what] : NONE;
    }
}
