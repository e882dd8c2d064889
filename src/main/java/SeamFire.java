/**
 * A fire under a town: the seam that burns by weeks, what is known of it, the houses and people
 * above it, the acts that hold there, and the best places for walls.
 */
public final class SeamFire {
    public static final int NONE = -1;

    private static final int WEEKS = 100;
    private static final int CELLS = 64;
    private static final int STATES = 8;
    private static final int ACTS = 10;
    private static final int TEXT = 300;
    private static final int FULL = 20;
    private static final int NOT_FED = -1000;
    private static final int WEEKS_AHEAD = 30;

    private static final int COAL = 1;
    private static final int PILLAR = 2;
    private static final int ROOM = 3;
    private static final int WATER = 4;

    private static final int SHUT = 0;
    private static final int WORTH = 1;
    private static final int WHOSE = 2;
    private static final int YES = 3;

    private static final int GAS_NAME = 0;
    private static final int CRACKS_NAME = 1;
    private static final int SIZE_NAME = 2;
    private static final int WEEK_NAME = 3;
    private static final int PEOPLE_NAME = 4;
    private static final int HEARD_NAME = 5;
    private static final int ASK_NAME = 6;
    private static final int KIN_NAME = 7;
    private static final int NAMES = 8;

    private final Grid grid;
    private final World now;
    private final World image;
    private final Fire[] fires;
    private final Fire trial;
    private final Reader tape;
    private final Act[] book;
    private final int[] names;
    private final int[] stack;
    private final boolean[] saysYes;

    public SeamFire(int w, int h) {
        grid = new Grid(Math.max(2, Math.min(8, w)), Math.max(2, Math.min(8, h)));
        now = new World(grid);
        image = new World(grid);
        fires = new Fire[STATES];
        for (int i = 0; i < STATES; i++) {
            fires[i] = new Fire();
        }
        trial = new Fire();
        tape = new Reader();
        book = new Act[ACTS];
        for (int i = 0; i < ACTS; i++) {
            book[i] = new Act();
        }
        names = new int[NAMES];
        stack = new int[TEXT];
        saysYes = new boolean[Town.PEOPLE];
    }

    // ---- the seam and what is done to it ----

    public boolean cell(int cell, int kind, int tons) {
        if (now.clock != 0 || !grid.has(cell) || !within(kind, 0, WATER)) {
            return false;
        }
        boolean burnable = kind == COAL || kind == PILLAR;
        if (burnable ? !within(tons, 1, 999) : tons != 0) {
            return false;
        }
        now.ground.tell(cell, kind, tons);
        changedFrom(0);
        return true;
    }

    public boolean rules(int heat, int rate, int draw) {
        if (!within(heat, 1, 20) || !within(rate, 1, 99) || !within(draw, 0, 30)) {
            return false;
        }
        now.ground.heatToCatch = heat;
        now.ground.rate = rate;
        now.ground.draw = draw;
        changedFrom(0);
        return true;
    }

    public int hole(int cell) {
        if (!grid.has(cell) || now.clock >= WEEKS || now.works.holes >= Works.HOLES) {
            return NONE;
        }
        // A hole changes the air of this week, so only later beginnings change.
        changedFrom(now.clock + 1);
        return now.works.bore(cell, now.clock);
    }

    public boolean plug(int hole) {
        if (!now.works.hasHole(hole) || now.works.plugged[hole] != NONE) {
            return false;
        }
        now.works.close(hole, now.clock);
        changedFrom(now.clock + 1);
        return true;
    }

    public int pour(int cell, int tons) {
        if (!isRoom(cell) || !within(tons, 1, 1000) || now.clock >= WEEKS
                || now.ground.poured >= Ground.POURS) {
            return NONE;
        }
        changedFrom(now.clock + 1);
        return now.ground.runSand(cell, tons, now.clock);
    }

    public int fill(int cell) {
        return grid.has(cell) ? now.ground.fill[cell] : NONE;
    }

    public int trench(int cell, int direction, int n, int each) {
        if (!grid.has(cell) || !within(direction, 0, 3) || !within(n, 1, 8) || !within(each, 1, 8)) {
            return NONE;
        }
        if (!grid.holds(cell, direction, n) || now.clock >= WEEKS || now.works.trenches >= Works.TRENCHES) {
            return NONE;
        }
        changedFrom(now.clock);
        return now.works.dig(cell, grid.step(direction), n, each, now.clock);
    }

    // ---- the states and what they tell ----

    public int state(int cell, int week) {
        if (!grid.has(cell) || !isWeek(week) || now.known.states >= STATES) {
            return NONE;
        }
        int kind = now.ground.kind[cell];
        if (kind != COAL && kind != PILLAR) {
            return NONE;
        }
        int number = now.known.addState(cell, week);
        fires[number].tell(cell, week);
        now.walls.forget();
        return number;
    }

    public int burns(int state, int week, int cell, int what) {
        if (!hasState(state) || !isWeek(week) || !grid.has(cell) || !within(what, 0, 3)) {
            return NONE;
        }
        Fire fire = fires[state];
        if (what == 1 || what == 2) {
            fire.standAt(now, week);
            return what == 1 ? fire.tons[cell] : fire.heat[cell];
        }
        fire.lookAt(now, week);
        if (what == 3) {
            return has(fire.air(now, week), cell) ? 1 : 0;
        }
        if (has(fire.burningAt[week], cell)) {
            return 1;
        }
        return has(fire.burntAt[week], cell) ? 2 : 0;
    }

    public int lost(int state, int week) {
        if (!hasState(state) || !isWeek(week)) {
            return NONE;
        }
        fires[state].lookAt(now, week);
        return lostBy(fires[state], week);
    }

    public int fed(int state, int week, int hole) {
        if (!hasState(state) || !isWeek(week) || !now.works.hasHole(hole)) {
            return NOT_FED;
        }
        trial.tell(now.known.stateCell[state], now.known.stateWeek[state]);
        trial.withoutHole = hole;
        trial.lookAt(now, week);
        trial.withoutHole = NONE;
        fires[state].lookAt(now, week);
        return lostBy(fires[state], week) - lostBy(trial, week);
    }

    public int inTime(int trench, int state) {
        if (trench < 0 || trench >= now.works.trenches) {
            return NONE;
        }
        if (hasState(state)) {
            return cutsInTime(trench, fires[state]) ? 1 : 0;
        }
        see(now.clock);
        int let = letNow();
        if (state != NONE || let == 0) {
            return NONE;
        }
        int good = 0;
        for (int s = 0; s < now.known.states; s++) {
            if (isIn(let, s) && cutsInTime(trench, fires[s])) {
                good++;
            }
        }
        return allOrSome(good, Integer.bitCount(let));
    }

    // ---- what is known ----

    public int read(int cell, int week, boolean burned) {
        if (!grid.has(cell) || !isWeek(week) || week > now.clock || now.known.readings >= Known.READINGS) {
            return NONE;
        }
        now.known.addReading(cell, week, burned, now.clock);
        now.walls.forget();
        return now.known.readings;
    }

    public int let(int state, int known) {
        if (!isKnown(known)) {
            return NONE;
        }
        see(now.clock);
        if (hasState(state)) {
            return isLet(state, known) ? 1 : 0;
        }
        return state == NONE ? Integer.bitCount(letAsKnown(known)) : NONE;
    }

    public int span(int cell, int week, int known) {
        if (!grid.has(cell) || !isWeek(week) || !isKnown(known)) {
            return NONE;
        }
        see(week);
        int let = letAsKnown(known);
        return let == 0 ? NONE : allOrSome(howManyBurn(let, cell, week), Integer.bitCount(let));
    }

    public int parts(int week) {
        if (!isWeek(week)) {
            return NONE;
        }
        see(week);
        int let = letNow();
        int all = Integer.bitCount(let);
        int best = NONE;
        int most = 0;
        for (int c = 0; c < grid.cells; c++) {
            int burn = howManyBurn(let, c, week);
            int lesser = Math.min(burn, all - burn);
            if (lesser > most) {
                most = lesser;
                best = c;
            }
        }
        return best;
    }

    // ---- houses, people, offers ----

    public int house(int cell, int cracks, int size) {
        if (!grid.has(cell) || !within(cracks, 0, 9) || !within(size, 1, 9) || now.town.houses >= Town.HOUSES) {
            return NONE;
        }
        return now.town.addHouse(cell, cracks, size);
    }

    public int gas(int house, int week, boolean high) {
        if (!now.town.hasHouse(house) || !isWeek(week)) {
            return NONE;
        }
        see(week);
        return gasOf(house, week, high, letNow());
    }

    public int person(int house, int kin, int ask) {
        if (!now.town.hasHouse(house) || !within(kin, 0, 9) || !within(ask, 0, 9999)
                || now.town.people >= Town.PEOPLE) {
            return NONE;
        }
        return now.town.addPerson(house, kin, ask);
    }

    public boolean hears(int person, int heard) {
        if (!now.town.hasPerson(person) || !within(heard, 0, 9)) {
            return false;
        }
        now.town.heard[person] = heard;
        return true;
    }

    public boolean offer(int house, int price, int till) {
        if (!now.town.hasHouse(house) || !within(price, 0, 9999) || !isWeekToCome(till)) {
            return false;
        }
        now.town.price[house] = price;
        now.town.till[house] = till;
        return true;
    }

    public boolean pull(int v) {
        if (!within(v, 0, 999)) {
            return false;
        }
        now.town.pullOfKin = v;
        return true;
    }

    public int gone(int person) {
        return now.town.hasPerson(person) ? now.town.wentIn[person] : NONE;
    }

    public int weeks(int n) {
        if (!within(n, 1, 20) || now.clock + n > WEEKS) {
            return NONE;
        }
        for (int i = 0; i < n; i++) {
            now.town.takeOffers(now.clock);
            now.clock++;
        }
        now.walls.forget();
        return now.clock;
    }

    // ---- texts and acts ----

    public int feed(int a, int b, int c, int d, int e) {
        if (!tape.hasRoom(20)) {
            return NONE;
        }
        tape.addWord(a);
        tape.addWord(b);
        tape.addWord(c);
        tape.addWord(d);
        tape.addWord(e);
        return tape.length;
    }

    public int end(int n) {
        if (!within(n, 0, tape.length)) {
            return NONE;
        }
        tape.length = n;
        return n;
    }

    public int act() {
        int number = now.law.acts;
        if (!within(number, 0, ACTS - 1) || !tape.readInto(book[number])) {
            return NONE;
        }
        now.law.acts++;
        return number;
    }

    public int fault(int what) {
        if (what == 0) {
            return tape.fault;
        }
        return what == 1 ? tape.faultAt : NONE;
    }

    public int force(int act, int from, int to) {
        if (!within(act, 0, now.law.acts - 1) || !isWeekToCome(from) || !isWeek(to) || to < from
                || now.law.forces >= Law.FORCES) {
            return NONE;
        }
        return now.law.addForce(act, from, to);
    }

    public int by(int house, int week, int what) {
        if (!now.town.hasHouse(house) || !isWeek(week) || !within(what, 0, 2)) {
            return NONE;
        }
        see(week);
        return what == 0 ? shutOf(house, week) : worthOf(house, week, what == 1);
    }

    public int whose(int week) {
        Act act = isWeek(week) ? actFor(WHOSE, week) : null;
        if (act == null) {
            return NONE;
        }
        names[WEEK_NAME] = week;
        names[PEOPLE_NAME] = now.town.people - now.town.howManyWent();
        for (int i = 0; i < act.clauses; i++) {
            if (act.sort[i] == WHOSE && act.value(i, names, stack) != 0) {
                return act.owner[i];
            }
        }
        return NONE;
    }

    public int vote(int week, int what) {
        if (!isWeek(week) || !within(what, 0, 2)) {
            return NONE;
        }
        see(week);
        int there = now.town.people - now.town.howManyWent();
        int yes = countVotes(week);
        if (what < 2) {
            return what == 0 ? yes : there - yes;
        }
        return there == 0 ? NONE : leastGift(yes, there - yes);
    }

    // ---- walls ----

    public int place(int cell, int cost) {
        if (!isRoom(cell) || !within(cost, 0, 9999) || now.walls.places >= Walls.PLACES) {
            return NONE;
        }
        return now.walls.add(cell, cost);
    }

    public int best(int coins, int week, int what) {
        if (!within(coins, 0, 99999) || !isWeekToCome(week) || week > now.clock + WEEKS_AHEAD || !within(what, 0, 2)) {
            return NONE;
        }
        see(now.clock);
        int let = letNow();
        if (let == 0) {
            return NONE;
        }
        Walls walls = now.walls;
        if (walls.askedCoins != coins || walls.askedWeek != week) {
            findBest(coins, week, let);
        }
        if (what == 0) {
            return walls.bestSet;
        }
        return what == 1 ? walls.bestCost : walls.bestLost;
    }

    // ---- the image, and counts ----

    public int image() {
        image.take(now);
        return now.clock;
    }

    public int back() {
        now.take(image);
        for (int s = 0; s < now.known.states; s++) {
            fires[s].tell(now.known.stateCell[s], now.known.stateWeek[s]);
        }
        return now.clock;
    }

    public int about(int what) {
        switch (what) {
            case 0: return now.clock;
            case 1: return grid.w;
            case 2: return grid.h;
            case 3: return now.works.holes;
            case 4: return now.works.trenches;
            case 5: return now.known.states;
            case 6: return now.known.readings;
            case 7: return now.town.houses;
            case 8: return now.town.people;
            case 9: return now.town.howManyWent();
            case 10: return now.law.acts;
            case 11: return now.law.forces;
            case 12: return now.walls.places;
            case 13: return tape.length;
            default: return NONE;
        }
    }

    // ---- what the face is built from ----

    private static boolean within(int value, int least, int greatest) {
        return value >= least && value <= greatest;
    }

    private static boolean isWeek(int week) {
        return within(week, 0, WEEKS - 1);
    }

    private static boolean isKnown(int known) {
        return within(known, 0, WEEKS);
    }

    private boolean isWeekToCome(int week) {
        return within(week, now.clock, WEEKS - 1);
    }

    private boolean isRoom(int cell) {
        return grid.has(cell) && now.ground.kind[cell] == ROOM;
    }

    private boolean hasState(int state) {
        return within(state, 0, now.known.states - 1);
    }

    private static boolean has(long mask, int cell) {
        return ((mask >>> cell) & 1L) != 0;
    }

    private static long bit(int cell) {
        return 1L << cell;
    }

    private static boolean isIn(int set, int number) {
        return ((set >>> number) & 1) != 0;
    }

    /** The lowest cell of a mask that is not empty. */
    private static int lowest(long mask) {
        return Long.bitCount((mask & -mask) - 1);
    }

    private static int allOrSome(int some, int all) {
        if (some == all) {
            return 2;
        }
        return some > 0 ? 1 : 0;
    }

    /** Beginnings of weeks from this one on may be others now; what was seen of earlier ones stays. */
    private void changedFrom(int week) {
        for (int s = 0; s < STATES; s++) {
            fires[s].forgetFrom(week);
        }
        now.walls.forget();
    }

    /** Comes with all states to a week, and as far as readings tell; the others below only look back. */
    private void see(int week) {
        int goal = Math.min(WEEKS - 1, Math.max(week, now.clock));
        for (int s = 0; s < now.known.states; s++) {
            fires[s].lookAt(now, goal);
        }
    }

    private static int lostBy(Fire fire, int week) {
        return Long.bitCount(fire.burningAt[week] | fire.burntAt[week]);
    }

    private boolean cutsInTime(int trench, Fire fire) {
        Works works = now.works;
        for (int i = 0; i < works.trenchLength[trench]; i++) {
            int week = works.weekOfCut(trench, i);
            if (week < WEEKS) {
                fire.lookAt(now, week);
                if (has(fire.metAt[week], works.cellOfCut(trench, i))) {
                    return false;
                }
            }
        }
        return true;
    }

    private boolean isLet(int state, int asKnown) {
        Known known = now.known;
        Fire fire = fires[state];
        for (int i = 0; i < known.readings; i++) {
            if (known.toldIn[i] <= asKnown) {
                boolean burns = has(fire.burningAt[known.readWeek[i]], known.readCell[i]);
                if (burns != (known.readBurned[i] != 0)) {
                    return false;
                }
            }
        }
        return true;
    }

    /** The states that are let, as bits of a number. */
    private int letAsKnown(int asKnown) {
        int let = 0;
        for (int s = 0; s < now.known.states; s++) {
            if (isLet(s, asKnown)) {
                let |= 1 << s;
            }
        }
        return let;
    }

    private int letNow() {
        return letAsKnown(now.clock);
    }

    private int howManyBurn(int let, int cell, int week) {
        int count = 0;
        for (int s = 0; s < now.known.states; s++) {
            if (isIn(let, s) && has(fires[s].burningAt[week], cell)) {
                count++;
            }
        }
        return count;
    }

    private int gasOf(int house, int week, boolean high, int let) {
        int found = NONE;
        for (int s = 0; s < now.known.states; s++) {
            if (isIn(let, s)) {
                int gas = now.town.cracks[house] * nearness(fires[s].burningAt[week], now.town.houseCell[house]);
                if (found == NONE || (high ? gas > found : gas < found)) {
                    found = gas;
                }
            }
        }
        return Math.max(0, found);
    }

    /** A cell d away lies in the balls of radius d to 3: it is counted 4 - d times. */
    private int nearness(long burning, int cell) {
        long ball = bit(cell);
        int sum = 0;
        for (int radius = 0; radius <= 3; radius++) {
            sum += Long.bitCount(burning & ball);
            ball |= grid.spread(ball);
        }
        return sum;
    }

    private Act actFor(int sort, int week) {
        for (int i = now.law.forces - 1; i >= 0; i--) {
            if (within(week, now.law.from[i], now.law.to[i])) {
                Act act = book[now.law.actOf[i]];
                if (act.first(sort) != NONE) {
                    return act;
                }
            }
        }
        return null;
    }

    private void nameHouse(int house, int week, int gas) {
        names[GAS_NAME] = gas;
        names[CRACKS_NAME] = now.town.cracks[house];
        names[SIZE_NAME] = now.town.size[house];
        names[WEEK_NAME] = week;
        names[PEOPLE_NAME] = now.town.thereIn(house);
    }

    private int shutOf(int house, int week) {
        Act act = actFor(SHUT, week);
        if (act == null) {
            return 0;
        }
        int clause = act.first(SHUT);
        int let = letNow();
        nameHouse(house, week, gasOf(house, week, false, let));
        int byLeast = act.value(clause, names, stack);
        names[GAS_NAME] = gasOf(house, week, true, let);
        return byLeast + act.value(clause, names, stack);
    }

    private int worthOf(int house, int week, boolean withGas) {
        Act act = actFor(WORTH, week);
        if (act == null) {
            return now.town.size[house] * 100;
        }
        nameHouse(house, week, withGas ? gasOf(house, week, true, letNow()) : 0);
        return Math.max(0, act.value(act.first(WORTH), names, stack));
    }

    /** How many say yes; who does is left in saysYes. */
    private int countVotes(int week) {
        Town town = now.town;
        Act act = actFor(YES, week);
        int let = act == null ? 0 : letNow();
        int count = 0;
        for (int p = 0; p < town.people; p++) {
            saysYes[p] = act != null && town.isThere(p) && votesYes(p, week, act, let);
            if (saysYes[p]) {
                count++;
            }
        }
        return count;
    }

    private boolean votesYes(int person, int week, Act act, int let) {
        Town town = now.town;
        int house = town.home[person];
        nameHouse(house, week, gasOf(house, week, true, let));
        names[HEARD_NAME] = town.heard[person];
        names[ASK_NAME] = town.ask[person];
        names[KIN_NAME] = town.kin[person];
        return act.value(act.first(YES), names, stack) != 0;
    }

    /** No ask is below 0, so the fewest that must turn, and of these the cheapest, are the least. */
    private int leastGift(int yes, int no) {
        if (yes > no) {
            return 0;
        }
        int needed = (no - yes) / 2 + 1;
        int sum = 0;
        for (int i = 0; i < needed; i++) {
            int cheapest = NONE;
            for (int p = 0; p < now.town.people; p++) {
                if (now.town.isThere(p) && !saysYes[p]
                        && (cheapest == NONE || now.town.ask[p] < now.town.ask[cheapest])) {
                    cheapest = p;
                }
            }
            if (cheapest != NONE) {
                saysYes[cheapest] = true;
                sum += now.town.ask[cheapest];
            }
        }
        return sum;
    }

    private void findBest(int coins, int week, int let) {
        Walls walls = now.walls;
        walls.bestLost = CELLS + 1;
        walls.bestCost = 0;
        walls.bestSet = 0;
        for (int set = 0; set < 1 << walls.places; set++) {
            int cost = walls.costOf(set);
            if (cost <= coins) {
                int greatest = greatestLost(walls.cellsOf(set), week, let, walls.bestLost);
                if (greatest < walls.bestLost || (greatest == walls.bestLost && cost < walls.bestCost)) {
                    walls.bestLost = greatest;
                    walls.bestCost = cost;
                    walls.bestSet = set;
                }
            }
        }
        walls.askedCoins = coins;
        walls.askedWeek = week;
    }

    /** Above the bound the set can't be best any more, so the other states aren't looked at. */
    private int greatestLost(long walled, int week, int let, int bound) {
        int greatest = 0;
        for (int s = 0; s < now.known.states && greatest <= bound; s++) {
            if (isIn(let, s)) {
                fires[s].standAt(now, now.clock);
                trial.standAs(fires[s]);
                trial.walled = walled;
                trial.standAt(now, week);
                trial.walled = 0;
                greatest = Math.max(greatest, lostBy(trial, week));
            }
        }
        return greatest;
    }

    // ---- the classes inside ----

    /** All that an image holds. */
    private static final class World {
        int clock;
        final Grid grid;
        final Ground ground;
        final Works works;
        final Known known;
        final Town town;
        final Law law;
        final Walls walls;

        World(Grid grid) {
            this.grid = grid;
            ground = new Ground(grid);
            works = new Works();
            known = new Known();
            town = new Town();
            law = new Law();
            walls = new Walls();
        }

        void take(World other) {
            clock = other.clock;
            ground.take(other.ground);
            works.take(other.works);
            known.take(other.known);
            town.take(other.town);
            law.take(other.law);
            walls.take(other.walls);
        }
    }

    /** The shape of the seam; sets of cells are bits of a long. */
    private static final class Grid {
        final int w;
        final int h;
        final int cells;
        final long all;
        final long notFirstColumn;
        final long notLastColumn;

        Grid(int w, int h) {
            this.w = w;
            this.h = h;
            cells = w * h;
            long seam = 0;
            long first = 0;
            long last = 0;
            for (int y = 0; y < h; y++) {
                for (int x = 0; x < w; x++) {
                    seam |= 1L << (y * w + x);
                }
                first |= 1L << (y * w);
                last |= 1L << (y * w + w - 1);
            }
            all = seam;
            notFirstColumn = seam & ~first;
            notLastColumn = seam & ~last;
        }

        boolean has(int cell) {
            return cell >= 0 && cell < cells;
        }

        /** The cells that are neighbours of one of these. */
        long spread(long mask) {
            long beside = ((mask & notLastColumn) << 1) | ((mask & notFirstColumn) >>> 1);
            return (beside | (mask << w) | (mask >>> w)) & all;
        }

        int step(int direction) {
            int along = direction < 2 ? 1 : w;
            return (direction & 1) == 0 ? along : -along;
        }

        boolean holds(int cell, int direction, int n) {
            int y = cell / Math.max(1, w);
            int from = direction < 2 ? cell - y * w : y;
            int size = direction < 2 ? w : h;
            return (direction & 1) == 0 ? from + n <= size : from - n >= -1;
        }
    }

    /** The cells as they were told, the rules, and the sand. */
    private static final class Ground {
        static final int POURS = 40;

        final Grid grid;
        final int[] kind = new int[CELLS];
        final int[] tons = new int[CELLS];
        final int[] fill = new int[CELLS];
        final long[] fullAt = new long[WEEKS];
        long rooms;
        long coal;
        int poured;
        int heatToCatch = 3;
        int rate = 10;
        int draw = 6;

        Ground(Grid grid) {
            this.grid = grid;
        }

        void take(Ground other) {
            System.arraycopy(other.kind, 0, kind, 0, CELLS);
            System.arraycopy(other.tons, 0, tons, 0, CELLS);
            System.arraycopy(other.fill, 0, fill, 0, CELLS);
            System.arraycopy(other.fullAt, 0, fullAt, 0, WEEKS);
            rooms = other.rooms;
            coal = other.coal;
            poured = other.poured;
            heatToCatch = other.heatToCatch;
            rate = other.rate;
            draw = other.draw;
        }

        /** Sand that was poured into the cell stays in it, whatever it is told to be now. */
        void tell(int cell, int kindTold, int tonsTold) {
            kind[cell] = kindTold;
            tons[cell] = tonsTold;
            rooms &= ~bit(cell);
            coal &= ~bit(cell);
            if (kindTold == ROOM) {
                rooms |= bit(cell);
            }
            if (tonsTold > 0) {
                coal |= bit(cell);
            }
        }

        int runSand(int cell, int amount, int week) {
            long seen = bit(cell);
            long layer = seen;
            int left = amount;
            for (int steps = 0; steps < CELLS && layer != 0 && left > 0; steps++) {
                left = fillLayer(layer, left);
                layer = grid.spread(layer) & rooms & ~seen;
                seen |= layer;
            }
            poured++;
            noteFull(week);
            return left;
        }

        private int fillLayer(long layer, int amount) {
            int left = amount;
            long rest = layer;
            for (int i = 0; i < CELLS && rest != 0 && left > 0; i++) {
                int c = lowest(rest);
                rest &= rest - 1;
                int given = Math.min(left, FULL - fill[c]);
                fill[c] += given;
                left -= given;
            }
            return left;
        }

        /** Sand poured in a week counts from the next week's beginning on. */
        private void noteFull(int week) {
            long full = 0;
            for (int c = 0; c < grid.cells; c++) {
                if (fill[c] >= FULL) {
                    full |= bit(c);
                }
            }
            for (int m = week + 1; m < WEEKS; m++) {
                fullAt[m] = full;
            }
        }
    }

    /** Holes and trenches. */
    private static final class Works {
        static final int HOLES = 20;
        static final int TRENCHES = 10;

        int holes;
        final int[] holeCell = new int[HOLES];
        final int[] bored = new int[HOLES];
        final int[] plugged = new int[HOLES];
        final long[] holesAt = new long[WEEKS];
        int trenches;
        final int[] trenchCell = new int[TRENCHES];
        final int[] trenchStep = new int[TRENCHES];
        final int[] trenchLength = new int[TRENCHES];
        final int[] trenchEach = new int[TRENCHES];
        final int[] trenchFrom = new int[TRENCHES];
        final long[] cutAt = new long[WEEKS];

        void take(Works other) {
            holes = other.holes;
            System.arraycopy(other.holeCell, 0, holeCell, 0, HOLES);
            System.arraycopy(other.bored, 0, bored, 0, HOLES);
            System.arraycopy(other.plugged, 0, plugged, 0, HOLES);
            System.arraycopy(other.holesAt, 0, holesAt, 0, WEEKS);
            trenches = other.trenches;
            System.arraycopy(other.trenchCell, 0, trenchCell, 0, TRENCHES);
            System.arraycopy(other.trenchStep, 0, trenchStep, 0, TRENCHES);
            System.arraycopy(other.trenchLength, 0, trenchLength, 0, TRENCHES);
            System.arraycopy(other.trenchEach, 0, trenchEach, 0, TRENCHES);
            System.arraycopy(other.trenchFrom, 0, trenchFrom, 0, TRENCHES);
            System.arraycopy(other.cutAt, 0, cutAt, 0, WEEKS);
        }

        boolean hasHole(int hole) {
            return hole >= 0 && hole < holes;
        }

        int bore(int cell, int week) {
            int number = holes;
            holeCell[number] = cell;
            bored[number] = week;
            plugged[number] = NONE;
            holes++;
            noteHoles(week);
            return number;
        }

        void close(int hole, int week) {
            plugged[hole] = week;
            noteHoles(week);
        }

        private void noteHoles(int week) {
            for (int m = week; m < WEEKS; m++) {
                holesAt[m] = openHoles(m, NONE);
            }
        }

        /** The cells with a hole that is open in a week, one hole left out. */
        long openHoles(int week, int without) {
            long open = 0;
            for (int i = 0; i < holes; i++) {
                boolean isOpen = bored[i] <= week && (plugged[i] == NONE || week < plugged[i]);
                if (isOpen && i != without) {
                    open |= bit(holeCell[i]);
                }
            }
            return open;
        }

        int dig(int cell, int step, int length, int each, int week) {
            int number = trenches;
            trenchCell[number] = cell;
            trenchStep[number] = step;
            trenchLength[number] = length;
            trenchEach[number] = each;
            trenchFrom[number] = week;
            trenches++;
            for (int i = 0; i < length; i++) {
                for (int m = weekOfCut(number, i); m < WEEKS; m++) {
                    cutAt[m] |= bit(cellOfCut(number, i));
                }
            }
            return number;
        }

        int weekOfCut(int trench, int i) {
            return trenchFrom[trench] + i / Math.max(1, trenchEach[trench]);
        }

        int cellOfCut(int trench, int i) {
            return trenchCell[trench] + trenchStep[trench] * i;
        }
    }

    /**
     * How the seam burns by one state. It stands at the beginning of one week with tons and heat;
     * of all weeks that it came through it keeps what burned and what was burnt.
     */
    private static final class Fire {
        int cell;
        int week;
        int withoutHole = NONE;
        long walled;
        int at = NONE;
        int seen;
        long burning;
        long burnt;
        long fuel;
        long warm;
        final int[] tons = new int[CELLS];
        final int[] heat = new int[CELLS];
        final long[] burningAt = new long[WEEKS];
        final long[] burntAt = new long[WEEKS];
        /** What burned or was burnt ahead of that week's cuts: a trench meets it. */
        final long[] metAt = new long[WEEKS];

        void tell(int ofCell, int inWeek) {
            cell = ofCell;
            week = inWeek;
            forgetFrom(0);
        }

        void forgetFrom(int first) {
            seen = Math.min(seen, first);
            if (at >= first) {
                at = NONE;
            }
        }

        /** Stands where the other one stands; what the other saw ahead of that isn't taken. */
        void standAs(Fire other) {
            cell = other.cell;
            week = other.week;
            at = other.at;
            seen = 0;
            burning = other.burning;
            burnt = other.burnt;
            fuel = other.fuel;
            warm = other.warm;
            System.arraycopy(other.tons, 0, tons, 0, CELLS);
            System.arraycopy(other.heat, 0, heat, 0, CELLS);
            if (at >= 0) {
                note();
            }
        }

        void lookAt(World world, int goal) {
            if (seen <= goal) {
                standAt(world, goal);
            }
        }

        void standAt(World world, int goal) {
            if (at == NONE || at > goal) {
                begin(world);
            }
            for (int i = 0; i < WEEKS && at < goal; i++) {
                pass(world);
            }
        }

        private void begin(World world) {
            System.arraycopy(world.ground.tons, 0, tons, 0, CELLS);
            for (int c = 0; c < CELLS; c++) {
                heat[c] = 0;
            }
            burning = 0;
            burnt = 0;
            warm = 0;
            fuel = world.ground.coal;
            at = 0;
            settle(world);
        }

        private void settle(World world) {
            if (at == week) {
                burning |= bit(cell) & fuel;
            }
            metAt[at] = burning | burnt;
            long cut = world.works.cutAt[at];
            long rest = fuel & cut;
            for (int i = 0; i < CELLS && rest != 0; i++) {
                tons[lowest(rest)] = 0;
                rest &= rest - 1;
            }
            fuel &= ~cut;
            burning &= ~cut;
            burnt &= ~cut;
            note();
        }

        private void note() {
            burningAt[at] = burning;
            burntAt[at] = burnt;
            seen = Math.max(seen, at + 1);
        }

        /** Which cells have air in a week that was seen; walls stand in every week that is asked. */
        long air(World world, int inWeek) {
            Grid grid = world.grid;
            long closed = world.ground.fullAt[inWeek] | world.works.cutAt[inWeek] | walled;
            long open = (world.ground.rooms & ~closed) | burntAt[inWeek];
            long reached = withoutHole == NONE
                    ? world.works.holesAt[inWeek] : world.works.openHoles(inWeek, withoutHole);
            long front = reached;
            long giving = 0;
            for (int s = 0; s < world.ground.draw && front != 0; s++) {
                giving |= front & open;
                front = grid.spread(front) & open & ~reached;
                reached |= front;
            }
            return reached | (grid.spread(giving) & ~open);
        }

        private void pass(World world) {
            long air = air(world, at);
            long caught = warmUp(world, air);
            coolDown(air);
            long spent = burnDown(world.ground.rate, air);
            burning = (burning & ~spent) | caught;
            burnt |= spent;
            fuel &= ~spent;
            at++;
            settle(world);
        }

        private long warmUp(World world, long air) {
            long rest = world.grid.spread(burning) & fuel & ~burning & air;
            warm |= rest;
            long caught = 0;
            for (int i = 0; i < CELLS && rest != 0; i++) {
                long one = rest & -rest;
                int c = lowest(rest);
                rest &= rest - 1;
                heat[c] += Long.bitCount(world.grid.spread(one) & burning);
                if (heat[c] >= world.ground.heatToCatch) {
                    caught |= one;
                }
            }
            return caught;
        }

        private void coolDown(long air) {
            long rest = warm & fuel & ~burning & ~air;
            for (int i = 0; i < CELLS && rest != 0; i++) {
                long one = rest & -rest;
                int c = lowest(rest);
                rest &= rest - 1;
                heat[c] = Math.max(0, heat[c] - 1);
                if (heat[c] == 0) {
                    warm &= ~one;
                }
            }
        }

        private long burnDown(int rate, long air) {
            long rest = burning;
            long spent = 0;
            for (int i = 0; i < CELLS && rest != 0; i++) {
                long one = rest & -rest;
                int c = lowest(rest);
                rest &= rest - 1;
                int loss = (air & one) != 0 ? rate : rate / 2;
                tons[c] = Math.max(0, tons[c] - loss);
                if (tons[c] == 0) {
                    spent |= one;
                }
            }
            return spent;
        }
    }

    /** The states that were told, and the readings. */
    private static final class Known {
        static final int READINGS = 200;

        int states;
        final int[] stateCell = new int[STATES];
        final int[] stateWeek = new int[STATES];
        int readings;
        final int[] readCell = new int[READINGS];
        final int[] readWeek = new int[READINGS];
        final int[] readBurned = new int[READINGS];
        final int[] toldIn = new int[READINGS];

        void take(Known other) {
            states = other.states;
            System.arraycopy(other.stateCell, 0, stateCell, 0, STATES);
            System.arraycopy(other.stateWeek, 0, stateWeek, 0, STATES);
            readings = other.readings;
            System.arraycopy(other.readCell, 0, readCell, 0, READINGS);
            System.arraycopy(other.readWeek, 0, readWeek, 0, READINGS);
            System.arraycopy(other.readBurned, 0, readBurned, 0, READINGS);
            System.arraycopy(other.toldIn, 0, toldIn, 0, READINGS);
        }

        int addState(int cell, int week) {
            int number = states;
            stateCell[number] = cell;
            stateWeek[number] = week;
            states++;
            return number;
        }

        void addReading(int cell, int week, boolean burned, int clock) {
            readCell[readings] = cell;
            readWeek[readings] = week;
            readBurned[readings] = burned ? 1 : 0;
            toldIn[readings] = clock;
            readings++;
        }
    }

    /** Houses with their offers, and people. */
    private static final class Town {
        static final int HOUSES = 20;
        static final int PEOPLE = 60;
        static final int KINS = 10;

        int houses;
        final int[] houseCell = new int[HOUSES];
        final int[] cracks = new int[HOUSES];
        final int[] size = new int[HOUSES];
        final int[] price = new int[HOUSES];
        final int[] till = new int[HOUSES];
        int people;
        final int[] home = new int[PEOPLE];
        final int[] kin = new int[PEOPLE];
        final int[] ask = new int[PEOPLE];
        final int[] heard = new int[PEOPLE];
        final int[] wentIn = new int[PEOPLE];
        final int[] kinGone = new int[KINS];
        int pullOfKin;

        void take(Town other) {
            houses = other.houses;
            System.arraycopy(other.houseCell, 0, houseCell, 0, HOUSES);
            System.arraycopy(other.cracks, 0, cracks, 0, HOUSES);
            System.arraycopy(other.size, 0, size, 0, HOUSES);
            System.arraycopy(other.price, 0, price, 0, HOUSES);
            System.arraycopy(other.till, 0, till, 0, HOUSES);
            people = other.people;
            System.arraycopy(other.home, 0, home, 0, PEOPLE);
            System.arraycopy(other.kin, 0, kin, 0, PEOPLE);
            System.arraycopy(other.ask, 0, ask, 0, PEOPLE);
            System.arraycopy(other.heard, 0, heard, 0, PEOPLE);
            System.arraycopy(other.wentIn, 0, wentIn, 0, PEOPLE);
            System.arraycopy(other.kinGone, 0, kinGone, 0, KINS);
            pullOfKin = other.pullOfKin;
        }

        boolean hasHouse(int house) {
            return house >= 0 && house < houses;
        }

        boolean hasPerson(int person) {
            return person >= 0 && person < people;
        }

        int addHouse(int cell, int cracksTold, int sizeTold) {
            int number = houses;
            houseCell[number] = cell;
            cracks[number] = cracksTold;
            size[number] = sizeTold;
            price[number] = 0;
            till[number] = NONE;
            houses++;
            return number;
        }

        int addPerson(int house, int kinTold, int askTold) {
            int number = people;
            home[number] = house;
            kin[number] = kinTold;
            ask[number] = askTold;
            heard[number] = 0;
            wentIn[number] = NONE;
            people++;
            return number;
        }

        boolean isThere(int person) {
            return wentIn[person] == NONE;
        }

        int thereIn(int house) {
            int count = 0;
            for (int p = 0; p < people; p++) {
                if (home[p] == house && isThere(p)) {
                    count++;
                }
            }
            return count;
        }

        int howManyWent() {
            int count = 0;
            for (int k = 0; k < KINS; k++) {
                count += kinGone[k];
            }
            return count;
        }

        void takeOffers(int week) {
            boolean someWent = true;
            for (int round = 0; round <= PEOPLE && someWent; round++) {
                someWent = false;
                for (int p = 0; p < people; p++) {
                    if (isThere(p) && till[home[p]] >= week && takes(p)) {
                        wentIn[p] = week;
                        kinGone[kin[p]]++;
                        someWent = true;
                    }
                }
            }
        }

        private boolean takes(int person) {
            int drawn = pullOfKin * kinGone[kin[person]];
            return price[home[person]] + heard[person] * 100 + drawn >= ask[person];
        }
    }

    /**
     * How many acts there are, and the forces. The acts' texts stand in one book for both worlds:
     * acts only come behind those that an image has, so it need not have them again.
     */
    private static final class Law {
        static final int FORCES = 30;

        int acts;
        int forces;
        final int[] actOf = new int[FORCES];
        final int[] from = new int[FORCES];
        final int[] to = new int[FORCES];

        void take(Law other) {
            acts = other.acts;
            forces = other.forces;
            System.arraycopy(other.actOf, 0, actOf, 0, FORCES);
            System.arraycopy(other.from, 0, from, 0, FORCES);
            System.arraycopy(other.to, 0, to, 0, FORCES);
        }

        int addForce(int act, int first, int last) {
            int number = forces;
            actOf[number] = act;
            from[number] = first;
            to[number] = last;
            forces++;
            return number;
        }
    }

    /** An act as it was read: for each clause its code, operands ahead of what joins them. */
    private static final class Act {
        static final int CLAUSES = 20;
        static final int FIRST_NAME = 10000;
        static final int FIRST_SIGN = 20000;
        static final int STOP = 30000;
        static final int MINUS_ONE = 40000;
        static final int LIMIT = 1000000000;

        int clauses;
        int length;
        final int[] sort = new int[CLAUSES];
        final int[] owner = new int[CLAUSES];
        final int[] start = new int[CLAUSES];
        final int[] code = new int[TEXT];

        void clear() {
            clauses = 0;
            length = 0;
        }

        void addClause(int sortTold) {
            if (clauses < CLAUSES) {
                sort[clauses] = sortTold;
                owner[clauses] = NONE;
                start[clauses] = length;
                clauses++;
            }
        }

        void setOwner(int number) {
            if (clauses > 0) {
                owner[clauses - 1] = number;
            }
        }

        void add(int item) {
            if (length < TEXT) {
                code[length] = item;
                length++;
            }
        }

        int first(int sortAsked) {
            for (int i = 0; i < clauses; i++) {
                if (sort[i] == sortAsked) {
                    return i;
                }
            }
            return NONE;
        }

        int value(int clause, int[] names, int[] stack) {
            if (clause < 0 || clause >= clauses) {
                return 0;
            }
            int top = 0;
            for (int i = start[clause]; i < length && code[i] != STOP && top < stack.length; i++) {
                int item = code[i];
                if (item < FIRST_NAME) {
                    stack[top] = item;
                    top++;
                } else if (item < FIRST_SIGN) {
                    stack[top] = names[item - FIRST_NAME];
                    top++;
                } else if (item == MINUS_ONE && top > 0) {
                    stack[top - 1] = -stack[top - 1];
                } else if (item == FIRST_SIGN + Reader.NOT && top > 0) {
                    stack[top - 1] = 1 - stack[top - 1];
                } else if (top > 1) {
                    top--;
                    stack[top - 1] = joined(item - FIRST_SIGN, stack[top - 1], stack[top]);
                }
            }
            return top > 0 ? stack[top - 1] : 0;
        }

        private static int joined(int sign, int a, int b) {
            switch (sign) {
                case '+': return limited((long) a + b);
                case '-': return limited((long) a - b);
                case '*': return limited((long) a * b);
                case '/': return b == 0 ? 0 : limited((long) a / b);
                case Reader.OR: return a | b;
                case Reader.AND: return a & b;
                default: return isSo(sign, a, b) ? 1 : 0;
            }
        }

        private static boolean isSo(int sign, int a, int b) {
            switch (sign) {
                case '<': return a < b;
                case '>': return a > b;
                case '=': return a == b;
                case '#': return a != b;
                case Reader.AT_MOST: return a <= b;
                default: return a >= b;
            }
        }

        private static int limited(long value) {
            return (int) Math.max(-LIMIT, Math.min(LIMIT, value));
        }
    }

    /** The tape, and the reading of it: first its tokens, then how they stand behind one another. */
    private static final class Reader {
        static final String WORDS = "shut worth whose yes or and not gas cracks size week people heard ask kin ";
        // A sign of one byte is its own token; the others keep clear of these, numbers above all.
        static final int END = 0;
        static final int UNKNOWN = 1;
        static final int AT_MOST = 2;
        static final int AT_LEAST = 3;
        static final int FIRST_WORD = 200;
        static final int OR = 204;
        static final int AND = 205;
        static final int NOT = 206;
        static final int FIRST_NAME = 207;
        static final int FIRST_NUMBER = 1000;
        static final int GREATEST_NUMBER = 9999;
        static final int DEEPEST = 8;

        final int[] text = new int[TEXT];
        int length;
        int fault = NONE;
        int faultAt = NONE;
        private final int[] tokens = new int[TEXT + 1];
        private final int[] places = new int[TEXT + 1];
        private int count;
        private int at;
        private int token;
        private int sort;
        private int sortsSeen;
        private Act act;

        boolean hasRoom(int bytes) {
            return length + bytes <= TEXT;
        }

        void addWord(int word) {
            for (int shift = 24; shift >= 0 && length < TEXT; shift -= 8) {
                text[length] = (word >>> shift) & 255;
                length++;
            }
        }

        /** Reads the tape, which is empty then, and tells whether it has no fault. */
        boolean readInto(Act into) {
            split();
            length = 0;
            fault = 0;
            faultAt = NONE;
            sortsSeen = 0;
            act = into;
            act.clear();
            at = 0;
            token = tokens[0];
            for (int i = 0; i < TEXT && token != END; i++) {
                readClause();
            }
            return fault == 0;
        }

        private void split() {
            count = 0;
            int from = 0;
            for (int i = 0; i < TEXT && from < length; i++) {
                if (text[from] == ' ' || text[from] == '\n') {
                    from++;
                } else {
                    int to = endOfToken(from);
                    tokens[count] = tokenOf(from, to);
                    places[count] = from;
                    count++;
                    from = to;
                }
            }
            tokens[count] = END;
            places[count] = length;
        }

        private int endOfToken(int from) {
            int family = familyOf(text[from]);
            int to = from + 1;
            if (family == '<') {
                return to < length && text[to] == '=' ? to + 1 : to;
            }
            if (family == 'a' || family == '0') {
                while (to < length && familyOf(text[to]) == family) {
                    to++;
                }
            }
            return to;
        }

        private int tokenOf(int from, int to) {
            switch (familyOf(text[from])) {
                case 'a': return wordOf(from, to);
                case '0': return FIRST_NUMBER + numberOf(from, to);
                case '<':
                    if (to - from == 1) {
                        return text[from];
                    }
                    return text[from] == '<' ? AT_MOST : AT_LEAST;
                case ';': return text[from];
                default: return UNKNOWN;
            }
        }

        /** Told by one byte of each: letters, digits, signs that may be longer, other signs. */
        private static int familyOf(int sign) {
            if ((sign >= 'a' && sign <= 'z') || (sign >= 'A' && sign <= 'Z')) {
                return 'a';
            }
            if (sign >= '0' && sign <= '9') {
                return '0';
            }
            switch (sign) {
                case '<': case '>':
                    return '<';
                case '=': case '#': case '+': case '-': case '*': case '/': case '(': case ')': case ';':
                    return ';';
                default:
                    return UNKNOWN;
            }
        }

        private int numberOf(int from, int to) {
            int number = 0;
            for (int i = from; i < to; i++) {
                number = Math.min(GREATEST_NUMBER + 1, number * 10 + text[i] - '0');
            }
            return number;
        }

        private int wordOf(int from, int to) {
            int word = 0;
            int wordFrom = 0;
            for (int i = 0; i < WORDS.length(); i++) {
                if (WORDS.charAt(i) == ' ') {
                    if (i - wordFrom == to - from && isWord(wordFrom, i, from)) {
                        return FIRST_WORD + word;
                    }
                    word++;
                    wordFrom = i + 1;
                }
            }
            return UNKNOWN;
        }

        private boolean isWord(int wordFrom, int wordTo, int from) {
            for (int i = wordFrom; i < wordTo; i++) {
                if (WORDS.charAt(i) != text[from + i - wordFrom]) {
                    return false;
                }
            }
            return true;
        }

        /** Only the first fault counts; behind it all reads as the end, so that the reading ends. */
        private void refuse(int kind) {
            if (fault == 0) {
                fault = kind;
                faultAt = places[at];
            }
            token = END;
        }

        private void advance() {
            if (fault == 0 && at < count) {
                at++;
                token = tokens[at];
            }
        }

        private void readClause() {
            sort = token - FIRST_WORD;
            if (sort < SHUT || sort > YES) {
                refuse(1);
            } else if (sort != WHOSE && isIn(sortsSeen, sort)) {
                refuse(4);
            } else if (act.clauses >= Act.CLAUSES) {
                refuse(6);
            } else {
                sortsSeen |= 1 << sort;
                act.addClause(sort);
                advance();
                if (sort == WHOSE) {
                    readOwner();
                }
                if (sort == WORTH) {
                    readSum(0);
                } else {
                    readEither();
                }
                act.add(Act.STOP);
                if (token == ';') {
                    advance();
                } else {
                    refuse(1);
                }
            }
        }

        private void readOwner() {
            int number = token - FIRST_NUMBER;
            if (number < 0) {
                refuse(1);
            } else if (number > 9) {
                refuse(2);
            } else {
                act.setOwner(number);
                advance();
            }
        }

        private void readEither() {
            boolean more = true;
            for (int i = 0; i < TEXT && more; i++) {
                readAsked(0);
                for (int k = 0; k < TEXT && token == AND; k++) {
                    advance();
                    readAsked(0);
                    act.add(Act.FIRST_SIGN + AND);
                }
                if (i > 0) {
                    act.add(Act.FIRST_SIGN + OR);
                }
                more = token == OR;
                if (more) {
                    advance();
                }
            }
        }

        private void readAsked(int depth) {
            if (token == NOT) {
                if (depth >= DEEPEST) {
                    refuse(3);
                } else {
                    advance();
                    readAsked(depth + 1);
                    act.add(Act.FIRST_SIGN + NOT);
                }
                return;
            }
            readSum(depth);
            int sign = token;
            if (isComparison(sign)) {
                advance();
                readSum(depth);
                act.add(Act.FIRST_SIGN + sign);
            } else {
                refuse(1);
            }
        }

        private static boolean isComparison(int sign) {
            return sign == '<' || sign == '>' || sign == '=' || sign == '#' || sign == AT_MOST || sign == AT_LEAST;
        }

        private void readSum(int depth) {
            int joins = NONE;
            for (int i = 0; i < TEXT && joins != END; i++) {
                readOne(depth);
                for (int k = 0; k < TEXT && (token == '*' || token == '/'); k++) {
                    int sign = token;
                    advance();
                    readOne(depth);
                    act.add(Act.FIRST_SIGN + sign);
                }
                if (joins != NONE) {
                    act.add(Act.FIRST_SIGN + joins);
                }
                joins = token == '+' || token == '-' ? token : END;
                if (joins != END) {
                    advance();
                }
            }
        }

        private void readOne(int depth) {
            int one = token;
            int wrong = faultOfOne(depth);
            if (wrong != 0) {
                refuse(wrong);
                return;
            }
            advance();
            if (one == '(') {
                readSum(depth + 1);
                if (token == ')') {
                    advance();
                } else {
                    refuse(1);
                }
            } else if (one == '-') {
                readOne(depth + 1);
                act.add(Act.MINUS_ONE);
            } else if (one >= FIRST_NUMBER) {
                act.add(one - FIRST_NUMBER);
            } else {
                act.add(Act.FIRST_NAME + one - FIRST_NAME);
            }
        }

        private int faultOfOne(int depth) {
            if (token >= FIRST_NUMBER) {
                return token - FIRST_NUMBER > GREATEST_NUMBER ? 2 : 0;
            }
            if (token == '(' || token == '-') {
                return depth >= DEEPEST ? 3 : 0;
            }
            int name = token - FIRST_NAME;
            if (name < 0) {
                return 1;
            }
            boolean ofVoter = name >= HEARD_NAME;
            boolean ofHouse = name <= SIZE_NAME;
            return (ofVoter && sort != YES) || (ofHouse && sort == WHOSE) ? 5 : 0;
        }
    }

    /** The places for walls, and what was found best when it was asked last. */
    private static final class Walls {
        static final int PLACES = 6;

        int places;
        final int[] placeCell = new int[PLACES];
        final int[] cost = new int[PLACES];
        int askedCoins = NONE;
        int askedWeek = NONE;
        int bestSet;
        int bestCost;
        int bestLost;

        void take(Walls other) {
            places = other.places;
            System.arraycopy(other.placeCell, 0, placeCell, 0, PLACES);
            System.arraycopy(other.cost, 0, cost, 0, PLACES);
            forget();
        }

        void forget() {
            askedCoins = NONE;
            askedWeek = NONE;
        }

        int add(int cell, int costTold) {
            int number = places;
            placeCell[number] = cell;
            cost[number] = costTold;
            places++;
            forget();
            return number;
        }

        int costOf(int set) {
            int sum = 0;
            for (int i = 0; i < places; i++) {
                sum += isIn(set, i) ? cost[i] : 0;
            }
            return sum;
        }

        long cellsOf(int set) {
            long mask = 0;
            for (int i = 0; i < places; i++) {
                mask |= isIn(set, i) ? bit(placeCell[i]) : 0;
            }
            return mask;
        }
    }
}
