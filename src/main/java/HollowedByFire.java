/**
 * A tree hollowed by fire: a hull in nine sections that workings char, spread and mend, a law read
 * from texts, and what follows for boats, trees and wood, by the numbered promises of the document.
 * Every refusal is a number that is answered; nothing is thrown.
 */
public final class HollowedByFire {
    public static final int NONE = -1, BAD = -2, STATE = -3, FULL = -4;
    public static final long NO = -4611686018427387904L;

    private static final int NO_SUCH = -5, NOT_SO = -7;
    private static final int MISSING = -11, OUTSIDE = -12, OTHER_SORT = -13, SIZE_BELOW_0 = -14;

    private static final int SECTIONS = 9, MIDDLE = 4, ALL_SECTIONS = 9;
    private static final int WIDE = 0, THICK = 1, HIGH = 2, GRAIN = 3, KNOT = 4, PEG = 5;
    private static final int HEAT = 0, WIND = 1, SAP = 2, MEN = 3, SEASON = 4;
    private static final int CHAR = 0, PULL = 1, STAND = 2;
    private static final int CHAR_MOST = 9, PULL_MOST = 999;
    private static final int WORK = 0, CHARRED = 1, PEGGED = 2, SPREAD = 3, SEWN = 4, RAISED = 5;
    private static final int A_TREE = 6;
    private static final int INCHES_MOST = 12, HOURS_MOST = 24, MEN_MOST = 5, CHANCE_MOST = 5;
    private static final int THICK_MOST = 20, WIDE_MOST = 99, SPREAD_WIDE_MOST = 198;
    private static final int LOAD_MOST = 9999, DAYS_MOST = 99, YEARS_MOST = 200, AGE_MOST = 999;
    private static final int WORKS_MOST = 10, TREES_MOST = 6, TEXTS_MOST = 6, TAPE_MOST = 160;
    private static final int NO_SEED = -1, SEED_MOST = 99999;
    private static final int RINGS = 5, SIDES = 8, SHEETS = 4, SHEET_MOST = 40;
    private static final String FIRST_LAW =
        "char 1 + (sap < heat) ; pull thick * 2 + knot * 9 + wide ; stand heat * 3 ;";

    private final Wood wood = new Wood();
    private final Laws laws = new Laws();
    private final Tape tape = new Tape();
    private final Works works = new Works();
    private final Grove grove = new Grove();
    private final Sheet[] sheets = new Sheet[SHEETS];
    private final int[] ages = new int[SHEET_MOST];
    private final Hull boat;
    private final Wood keptWood = new Wood();
    private final int[] keptBored = new int[TREES_MOST];
    private int keptTrees = 0;
    private boolean isKept = false;

    public HollowedByFire() {
        boat = new Hull(wood, laws);
        for (int s = 0; s < SHEETS; s++) {
            sheets[s] = new Sheet();
        }
        for (int i = 0; i < FIRST_LAW.length(); i++) {
            tape.append(FIRST_LAW.charAt(i));
        }
        if (tape.read() < 0) {
            laws.keep(tape.code, tape.ends);
        }
        tape.empty();
    }

    // ---- the hull as it is carved

    public int carve(int s, int what, int v) {
        if (!isSection(s)) {
            return NO_SUCH;
        }
        if (!wood.takes(what, v)) {
            return NOT_SO;
        }
        int was = wood.of(what, s);
        wood.put(what, s, v);
        return was;
    }

    public int carved(int s, int what) {
        if (!isSection(s)) {
            return NO_SUCH;
        }
        return within(what, WIDE, PEG) ? wood.of(what, s) : NOT_SO;
    }

    public int set(int what, int v) {
        if (!within(what, HEAT, SEASON)) {
            return NONE;
        }
        if (!wood.takesSetting(what, v)) {
            return BAD;
        }
        int was = wood.setting(what);
        wood.putSetting(what, v);
        return was;
    }

    public int count(int what) {
        switch (what) {
            case HEAT: case WIND: case SAP: case MEN: case SEASON:
                return wood.setting(what);
            case 5:
                return works.size;
            case 6:
                return grove.size;
            case 7:
                return laws.size;
            case 8:
                return wood.law;
            case 9:
                return tape.size;
            default:
                return BAD;
        }
    }

    // ---- the law

    public int feed(long w, int n) {
        if (!within(n, 1, 8)) {
            return BAD;
        }
        if (tape.size + n > TAPE_MOST) {
            return FULL;
        }
        for (int i = n - 1; i >= 0; i--) {
            tape.append((int) (w >>> (8 * i)) & 255);
        }
        return tape.size;
    }

    public int text() {
        if (laws.size >= TEXTS_MOST) {
            return FULL;
        }
        int fault = tape.read();
        tape.empty();
        return fault >= 0 ? -100 - fault : laws.keep(tape.code, tape.ends);
    }

    public int force(int t) {
        if (!within(t, 0, laws.size - 1)) {
            return BAD;
        }
        int was = wood.law;
        wood.law = t;
        return was;
    }

    public int asks(int part, int thickNow, int wideNow, int knots) {
        if (!within(part, CHAR, STAND) || !within(thickNow, 0, THICK_MOST)
            || !within(wideNow, 0, SPREAD_WIDE_MOST) || !within(knots, 0, 1)) {
            return BAD;
        }
        boat.begin();
        return boat.asked(part, thickNow, wideNow, knots);
    }

    // ---- workings

    public int work(int kind, int section, int more) {
        return works.add(kind, section, more);
    }

    public int forget() {
        if (works.size < 1) {
            return STATE;
        }
        works.size--;
        return works.size;
    }

    public int workTold(int w, int what) {
        if (!works.has(w)) {
            return NO_SUCH;
        }
        switch (what) {
            case 0:
                return works.kind(w);
            case 1:
                return works.section(w);
            case 2:
                return works.more(w);
            case 3:
                return works.daysBy(w, wood.setting(MEN));
            default:
                return NOT_SO;
        }
    }

    public int hull(int n, int s, int what) {
        if (!isSoMany(n)) {
            return NO_SUCH;
        }
        if (!isSection(s) || !within(what, 0, 3)) {
            return NOT_SO;
        }
        makeHull(n, NO_SEED);
        switch (what) {
            case 0:
                return boat.wide[s];
            case 1:
                return boat.thick[s];
            case 2:
                return boat.high[s];
            default:
                return boat.isBroken(s) ? 1 : 0;
        }
    }

    public int state(int n, int what) {
        if (!isSoMany(n)) {
            return NO_SUCH;
        }
        if (!within(what, 0, 2)) {
            return NOT_SO;
        }
        makeHull(n, NO_SEED);
        if (what == 0) {
            return boat.broken;
        }
        return what == 1 ? boat.spread : boat.firstBreak;
    }

    public int days(int n, int what) {
        if (!isSoMany(n)) {
            return NO_SUCH;
        }
        if (!within(what, 0, 1)) {
            return NOT_SO;
        }
        int men = wood.setting(MEN);
        return what == 0 ? works.allDaysBy(n, men) : works.longest(n, men);
    }

    public int fewest(int n, int most) {
        if (!isSoMany(n)) {
            return NO_SUCH;
        }
        if (!within(most, 0, 999)) {
            return NOT_SO;
        }
        for (int men = 1; men <= MEN_MOST; men++) {
            if (works.allDaysBy(n, men) <= most) {
                return men;
            }
        }
        return -1;
    }

    // ---- how far it may be spread

    public int crack(int n, int inches) {
        if (!isSoMany(n)) {
            return NO_SUCH;
        }
        if (!within(inches, 0, INCHES_MOST)) {
            return NOT_SO;
        }
        makeHull(n, NO_SEED);
        int ahead = boat.broken;
        boat.spreadBy(inches);
        return boat.broken & ~ahead;
    }

    public int far(int n) {
        if (!isSoMany(n)) {
            return NO_SUCH;
        }
        makeHull(n, NO_SEED);
        int ahead = boat.broken;
        int upTo = INCHES_MOST - boat.spread;
        for (int inches = 1; inches <= upTo; inches++) {
            boat.inch();
            if ((boat.broken & ~ahead) != 0) {
                return inches - 1;
            }
        }
        return upTo;
    }

    public long odds(int n, int inches, int v, int part) {
        if (!isSoMany(n) || !within(inches, 0, INCHES_MOST) || !within(v, 0, CHANCE_MOST)) {
            return NO;
        }
        makeHull(n, NO_SEED);
        boat.watch();
        boat.spreadBy(inches);
        return new Fraction(boat.chancesWhole(v), 2 * v + 1).part(part);
    }

    public int stop(int n, int inch, int cost, int v) {
        if (!isSoMany(n)) {
            return NO_SUCH;
        }
        if (!within(inch, 0, 999) || !within(cost, 0, 9999) || !within(v, 0, CHANCE_MOST)) {
            return NOT_SO;
        }
        makeHull(n, NO_SEED);
        boat.watch();
        int upTo = INCHES_MOST - boat.spread;
        int best = 0;
        int most = 0;
        for (int inches = 1; inches <= upTo; inches++) {
            boat.inch();
            int whole = boat.chancesWhole(v);
            // all chances together stand for their mean: each is alike, and their number is fixed
            int brings = whole * inches * inch - (2 * v + 1 - whole) * cost;
            if (brings > most) {
                most = brings;
                best = inches;
            }
        }
        return best;
    }

    // ---- wished and old boats

    public int wished(int s, int inches, int section) {
        if (!isSection(section)) {
            return NO_SUCH;
        }
        if (!within(inches, 0, INCHES_MOST)) {
            return NOT_SO;
        }
        Sheet told = sheetAt(s);
        int refusal = refusalOfWidths(told);
        if (refusal != 0) {
            return refusal;
        }
        int wide = widthToCarve(told, inches, section);
        return within(wide, 1, WIDE_MOST) ? wide : -1;
    }

    public int old(int s) {
        Sheet told = sheetAt(s);
        int refusal = refusalOfWidths(told);
        if (refusal != 0) {
            return refusal;
        }
        int best = -1;
        int least = 0;
        for (int inches = 0; inches <= INCHES_MOST; inches++) {
            if (!canBeCarved(told, inches)) {
                continue;
            }
            int uneven = unevenness(told, inches);
            if (best < 0 || uneven < least) {
                best = inches;
                least = uneven;
            }
        }
        return best;
    }

    public int copyOf(int s, int inches) {
        Sheet told = sheetAt(s);
        int refusal = refusalOfWidths(told);
        if (refusal != 0) {
            return refusal;
        }
        if (!within(inches, 0, INCHES_MOST) || !canBeCarved(told, inches)) {
            return STATE;
        }
        int changed = 0;
        for (int section = 0; section < SECTIONS; section++) {
            int wide = widthToCarve(told, inches, section);
            if (wood.of(WIDE, section) != wide) {
                changed++;
            }
            wood.put(WIDE, section, wide);
        }
        return changed;
    }

    // ---- thickness, fire

    public int even(int s, int told) {
        if (!isSection(s)) {
            return NO_SUCH;
        }
        if (!within(told, 0, PULL_MOST)) {
            return NOT_SO;
        }
        boat.begin();
        int best = 1;
        int nearest = PULL_MOST + 1;
        for (int thick = 1; thick <= THICK_MOST; thick++) {
            int pull = boat.asked(PULL, thick, wood.of(WIDE, s), wood.of(KNOT, s));
            int away = Math.abs(pull - told);
            if (away < nearest) {
                nearest = away;
                best = thick;
            }
        }
        return best;
    }

    public int hours(int s, int what) {
        if (!isSection(s)) {
            return NO_SUCH;
        }
        if (!within(what, 0, 1)) {
            return NOT_SO;
        }
        int aim = what == 0 ? wood.of(PEG, s) : 0;
        boat.begin();
        for (int h = 0; h <= HOURS_MOST; h++) {
            if (boat.thick[s] <= aim) {
                return h;
            }
            boat.fire(s);
        }
        return -1;
    }

    public long left(int s, int h, int part) {
        if (!isSection(s) || !within(h, 0, HOURS_MOST)) {
            return NO;
        }
        int enough = 0;
        for (int wind = 0; wind <= 9; wind++) {
            boat.begin();
            boat.blow(wind);
            boat.burn(s, h, 0);
            if (boat.thick[s] >= wood.of(PEG, s)) {
                enough++;
            }
        }
        return new Fraction(enough, 10).part(part);
    }

    public int judge(int n, int s) {
        if (!isSoMany(n)) {
            return NO_SUCH;
        }
        Sheet told = sheetAt(s);
        if (told == null || told.isMissing()) {
            return refusalFor(told);
        }
        if (told.size != SECTIONS) {
            return BAD;
        }
        makeHull(n, NO_SEED);
        for (int section = 0; section < SECTIONS; section++) {
            if (boat.thick[section] < told.at(section)) {
                return section;
            }
        }
        return -1;
    }

    // ---- how it floats

    public int floats(int n, int load, int what) {
        if (!isSoMany(n)) {
            return NO_SUCH;
        }
        if (!within(load, 0, LOAD_MOST) || !within(what, 0, 2)) {
            return NOT_SO;
        }
        makeHull(n, NO_SEED);
        if (boat.sinks(load)) {
            return -1;
        }
        int draught = boat.draught(load);
        if (what == 0) {
            return draught;
        }
        return what == 1 ? boat.leastHigh() - draught : boat.steadiness(draught);
    }

    public int bears(int n, int above) {
        if (!isSoMany(n)) {
            return NO_SUCH;
        }
        if (!within(above, 0, 99)) {
            return NOT_SO;
        }
        makeHull(n, NO_SEED);
        int spare = boat.allWide() * (boat.leastHigh() - above) - boat.weight();
        return spare < 0 || boat.broken != 0 ? -1 : spare;
    }

    public int bar(int n, int load, int wave) {
        if (!isSoMany(n)) {
            return NO_SUCH;
        }
        if (!within(load, 0, LOAD_MOST) || !within(wave, 0, 999)) {
            return NOT_SO;
        }
        makeHull(n, NO_SEED);
        int ends = Math.min(boat.high[0], boat.high[SECTIONS - 1]);
        return !boat.sinks(load) && ends - boat.draught(load) >= wave ? 1 : 0;
    }

    // ---- trees

    public int tree(int g, int l, int k, int s) {
        if (!within(g, 1, 99) || !within(l, -9, 9) || !within(k, 0, 9)) {
            return BAD;
        }
        Sheet told = sheetAt(s);
        if (told == null || told.isMissing()) {
            return refusalFor(told);
        }
        if (!tellsRings(told)) {
            return BAD;
        }
        return grove.add(g, l, k, told);
    }

    public int bore(int t, int r) {
        Tree tree = grove.at(t);
        if (tree == null) {
            return NO_SUCH;
        }
        if (!within(r, -1, RINGS - 1)) {
            return NOT_SO;
        }
        int was = tree.bored;
        tree.bored = r;
        return was;
    }

    public long worth(int t, int part) {
        Tree tree = grove.at(t);
        return tree == null ? NO : tree.mean().part(part);
    }

    public int which() {
        return grove.bestBut(-1);
    }

    public long boring(int t, int part) {
        return grove.at(t) == null ? NO : grove.holeWorth(t).part(part);
    }

    public int hole() {
        int best = -1;
        Fraction most = new Fraction(0, 1);
        for (int t = 0; t < grove.size; t++) {
            Fraction worth = grove.holeWorth(t);
            if (worth.isAbove(most)) {
                most = worth;
                best = t;
            }
        }
        return best;
    }

    public int fell(int t, int boughs, int what) {
        Tree tree = grove.at(t);
        if (tree == null) {
            return NO_SUCH;
        }
        if (!within(boughs, 0, 255) || !within(what, 0, 1)) {
            return NOT_SO;
        }
        int best = 0;
        for (int side = 1; side < SIDES; side++) {
            if (tree.hurtBy(side, boughs) < tree.hurtBy(best, boughs)) {
                best = side;
            }
        }
        return what == 0 ? best : tree.hurtBy(best, boughs);
    }

    public int forest(int s, int old, int years) {
        if (!within(old, 1, AGE_MOST) || !within(years, 0, YEARS_MOST)) {
            return BAD;
        }
        Sheet told = sheetAt(s);
        if (told == null || told.isMissing()) {
            return refusalFor(told);
        }
        int trees = Math.min(told.size, SHEET_MOST);
        for (int i = 0; i < trees; i++) {
            ages[i] = told.at(i);
            if (!within(ages[i], 0, AGE_MOST)) {
                return BAD;
            }
        }
        int boats = 0;
        for (int year = 0; year < years; year++) {
            boats += yearOfForest(trees, old);
        }
        return boats;
    }

    // ---- drying, hulls drawn

    public int dries(int n, int days) {
        if (!isSoMany(n)) {
            return NO_SUCH;
        }
        if (!within(days, 0, DAYS_MOST)) {
            return NOT_SO;
        }
        makeHull(n, NO_SEED);
        return boat.driedApart(days);
    }

    public int shade(int n) {
        if (!isSoMany(n)) {
            return NO_SUCH;
        }
        makeHull(n, NO_SEED);
        for (int days = 1; days <= DAYS_MOST; days++) {
            if (boat.driedApart(days) != 0) {
                return days - 1;
            }
        }
        return -1;
    }

    public int drawn(int n, int s, int seed, int what) {
        if (!isSoMany(n)) {
            return NO_SUCH;
        }
        if (!isSection(s) || !within(seed, 0, SEED_MOST) || !within(what, 0, 1)) {
            return NOT_SO;
        }
        makeHull(n, seed);
        return what == 0 ? boat.thick[s] : boat.broken;
    }

    public int image() {
        keptWood.become(wood);
        keptTrees = grove.size;
        for (int t = 0; t < TREES_MOST; t++) {
            Tree tree = grove.at(t);
            keptBored[t] = tree == null ? -1 : tree.bored;
        }
        isKept = true;
        return works.size;
    }

    public int back() {
        if (!isKept) {
            return STATE;
        }
        wood.become(keptWood);
        for (int t = 0; t < keptTrees && t < TREES_MOST; t++) {
            Tree tree = grove.at(t);
            if (tree != null) {
                tree.bored = keptBored[t];
            }
        }
        return works.size;
    }

    // ---- the host

    public int sheet(int s, int sort, int n) {
        Sheet made = sheetAt(s);
        if (made == null || !within(sort, Sheet.NO_SORT, Sheet.INTS)) {
            return BAD;
        }
        if (sort != Sheet.NO_SORT) {
            if (n > SHEET_MOST) {
                return BAD;
            }
            if (n < 0) {
                return SIZE_BELOW_0;
            }
        }
        made.become(sort, n);
        return 1;
    }

    public int cell(int s, int i, int v) {
        Sheet told = sheetAt(s);
        if (told == null || told.isMissing()) {
            return refusalFor(told);
        }
        if (!told.has(i)) {
            return OUTSIDE;
        }
        told.put(i, v);
        return 1;
    }

    public int copy(int s, int i, int other, int j, int n) {
        Sheet from = sheetAt(s);
        Sheet to = sheetAt(other);
        if (from == null || to == null) {
            return BAD;
        }
        if (from.isMissing() || to.isMissing()) {
            return MISSING;
        }
        if (from.sort != to.sort) {
            return OTHER_SORT;
        }
        if (!from.hasAll(i, n) || !to.hasAll(j, n)) {
            return OUTSIDE;
        }
        System.arraycopy(from.row, i, to.row, j, n);
        return n;
    }

    public int worksBy(int s, int sort, int at, int n) {
        Sheet told = sheetAt(s);
        if (told == null || !within(sort, Sheet.BYTES, Sheet.INTS) || !within(n, 0, WORKS_MOST)) {
            return BAD;
        }
        if (told.isMissing()) {
            return MISSING;
        }
        if (told.sort != sort) {
            return OTHER_SORT;
        }
        int came = 0;
        for (int i = 0; i < n; i++) {
            if (at < 0 || at > told.size - 3 * (i + 1)) {
                return OUTSIDE;
            }
            int from = at + 3 * i;
            if (works.add(told.at(from), told.at(from + 1), told.at(from + 2)) >= 0) {
                came++;
            }
        }
        return came;
    }

    public int taken(int i, int kind) {
        if (!within(kind, WORK, A_TREE)) {
            return BAD;
        }
        if (!within(i, 0, TREES_MOST + WORKS_MOST - 1)) {
            return OUTSIDE;
        }
        if (i < TREES_MOST) {
            Tree tree = grove.at(i);
            if (tree == null) {
                return MISSING;
            }
            return kind == A_TREE ? tree.girth : OTHER_SORT;
        }
        int w = i - TREES_MOST;
        if (!works.has(w)) {
            return MISSING;
        }
        return Works.isOne(works.kind(w), kind) ? w : OTHER_SORT;
    }

    // ---- what several calls share

    private static boolean within(int v, int least, int most) {
        return v >= least && v <= most;
    }

    private static boolean isSection(int s) {
        return within(s, 0, SECTIONS - 1);
    }

    private static int share(int s) {
        return MIDDLE - Math.abs(s - MIDDLE);
    }

    private boolean isSoMany(int n) {
        return within(n, 0, works.size);
    }

    /** The HULL behind n WORKINGS, DRAWN by a SEED or, by NO_SEED, as the LAW burns it. */
    private void makeHull(int n, int seed) {
        boat.begin();
        boat.drawBy(seed);
        for (int w = 0; w < n && w < works.size; w++) {
            int ahead = boat.broken;
            boat.make(works.kind(w), works.section(w), works.more(w));
            if (boat.firstBreak < 0 && (boat.broken & ~ahead) != 0) {
                boat.firstBreak = w;
            }
        }
    }

    private Sheet sheetAt(int s) {
        return s >= 0 && s < sheets.length ? sheets[s] : null;
    }

    /** For a SHEET that is none, or is missing. */
    private static int refusalFor(Sheet told) {
        return told == null ? BAD : MISSING;
    }

    /** As of wished(): what is wrong with a SHEET of nine told widths, 0 if nothing is. */
    private static int refusalOfWidths(Sheet told) {
        if (told == null || told.isMissing()) {
            return refusalFor(told);
        }
        if (told.size != SECTIONS) {
            return BAD;
        }
        for (int section = 0; section < SECTIONS; section++) {
            if (!within(told.at(section), 1, SPREAD_WIDE_MOST)) {
                return BAD;
            }
        }
        return 0;
    }

    private static int widthToCarve(Sheet told, int inches, int section) {
        return told == null ? 0 : told.at(section) - inches * share(section);
    }

    private static boolean canBeCarved(Sheet told, int inches) {
        for (int section = 0; section < SECTIONS; section++) {
            if (!within(widthToCarve(told, inches, section), 1, WIDE_MOST)) {
                return false;
            }
        }
        return true;
    }

    private static int unevenness(Sheet told, int inches) {
        int all = 0;
        for (int section = 1; section < SECTIONS; section++) {
            all += Math.abs(widthToCarve(told, inches, section) - widthToCarve(told, inches, section - 1));
        }
        return all;
    }

    private static boolean tellsRings(Sheet told) {
        if (told.size != RINGS) {
            return false;
        }
        int all = 0;
        for (int ring = 0; ring < RINGS; ring++) {
            if (!within(told.at(ring), 0, 99)) {
                return false;
            }
            all += told.at(ring);
        }
        return all > 0;
    }

    /** One year of the first so many ages: the boats of it, 0 or 1. */
    private int yearOfForest(int trees, int old) {
        int oldest = -1;
        for (int i = 0; i < trees && i < SHEET_MOST; i++) {
            if (oldest < 0 || ages[i] > ages[oldest]) {
                oldest = i;
            }
        }
        int boats = 0;
        if (oldest >= 0 && ages[oldest] >= old) {
            ages[oldest] = 0;
            boats = 1;
        }
        for (int i = 0; i < trees && i < SHEET_MOST; i++) {
            ages[i]++;
        }
        return boats;
    }

    /** All that is carved and set, and which TEXT is THE LAW: just what an IMAGE keeps of it. */
    private static final class Wood {
        private static final int[] LEAST = {1, 1, 1, 1, 0, 0};
        private static final int[] MOST = {99, 20, 99, 99, 1, 20};
        private static final int[] AT_FIRST = {20, 8, 10, 30, 0, 2};
        private static final int[] SETTING_LEAST = {0, 0, 0, 1, 0};
        private static final int[] SETTING_MOST = {9, 9, 9, 5, 9};
        private static final int[] SETTING_AT_FIRST = {5, 0, 3, 2, 0};

        private final int[][] rows = new int[6][SECTIONS];
        private final int[] settings = new int[5];
        private int law = 0;

        Wood() {
            for (int what = WIDE; what <= PEG; what++) {
                for (int s = 0; s < SECTIONS; s++) {
                    rows[what][s] = AT_FIRST[what];
                }
            }
            for (int what = HEAT; what <= SEASON; what++) {
                settings[what] = SETTING_AT_FIRST[what];
            }
        }

        boolean takes(int what, int v) {
            return within(what, WIDE, PEG) && within(v, LEAST[what], MOST[what]);
        }

        int of(int what, int s) {
            return within(what, WIDE, PEG) && isSection(s) ? rows[what][s] : 0;
        }

        void put(int what, int s, int v) {
            if (within(what, WIDE, PEG) && isSection(s)) {
                rows[what][s] = v;
            }
        }

        boolean takesSetting(int what, int v) {
            return within(what, HEAT, SEASON) && within(v, SETTING_LEAST[what], SETTING_MOST[what]);
        }

        int setting(int what) {
            return within(what, HEAT, SEASON) ? settings[what] : 0;
        }

        void putSetting(int what, int v) {
            if (within(what, HEAT, SEASON)) {
                settings[what] = v;
            }
        }

        void become(Wood other) {
            for (int what = WIDE; what <= PEG; what++) {
                for (int s = 0; s < SECTIONS; s++) {
                    rows[what][s] = other.rows[what][s];
                }
            }
            for (int what = HEAT; what <= SEASON; what++) {
                settings[what] = other.settings[what];
            }
            law = other.law;
        }
    }

    /**
     * The steps of a TEXT's code, which runs on a stack: a number from 0 on is put there as it is, a
     * name's number too, and an operation takes its one or two numbers from there.
     */
    private static final class Step {
        private static final int FIRST_NAME = -1, NAMES = 6;
        private static final int NEGATE = -10, NOT = -11, OR = -12, AND = -13, LESS = -14;
        private static final int SAME = -15, PLUS = -16, MINUS = -17, TIMES = -18;

        /** How many numbers a step takes from the stack. */
        static int takes(int step) {
            if (step > NEGATE) {
                return 0;
            }
            return step >= NOT ? 1 : 2;
        }

        static int result(int step, int a, int b, int[] names) {
            switch (step) {
                case NEGATE:
                    return -a;
                case NOT:
                    return a == 0 ? 1 : 0;
                case OR:
                    return a != 0 || b != 0 ? 1 : 0;
                case AND:
                    return a != 0 && b != 0 ? 1 : 0;
                case LESS:
                    return a < b ? 1 : 0;
                case SAME:
                    return a == b ? 1 : 0;
                case PLUS:
                    return a + b;
                case MINUS:
                    return a - b;
                case TIMES:
                    return a * b;
                default:
                    break;
            }
            if (step >= 0) {
                return step;
            }
            int name = FIRST_NAME - step;
            return name < names.length ? names[name] : 0;
        }
    }

    /** The TEXTS, as codes. */
    private static final class Laws {
        private final int[][] codes = new int[TEXTS_MOST][TAPE_MOST];
        private final int[][] ends = new int[TEXTS_MOST][3];
        private final int[] stack = new int[TAPE_MOST];
        private int size = 0;

        int keep(int[] code, int[] codeEnds) {
            if (size >= TEXTS_MOST || code.length < TAPE_MOST || codeEnds.length < 3) {
                return FULL;
            }
            System.arraycopy(code, 0, codes[size], 0, TAPE_MOST);
            System.arraycopy(codeEnds, 0, ends[size], 0, 3);
            size++;
            return size - 1;
        }

        /** CHAR, PULL or STAND by a TEXT, brought within its bounds. */
        int answer(int text, int part, int[] names) {
            if (text < 0 || text >= size || part < CHAR || part > STAND) {
                return 0;
            }
            int[] code = codes[text];
            int to = Math.min(ends[text][part], code.length);
            int top = 0;
            stack[0] = 0;
            for (int i = part == CHAR ? 0 : Math.max(ends[text][part - 1], 0); i < to; i++) {
                int step = code[i];
                int takes = Step.takes(step);
                if (takes > top || top >= stack.length) {
                    return 0;
                }
                int a = takes > 0 ? stack[top - takes] : 0;
                int b = takes > 1 ? stack[top - 1] : 0;
                top += 1 - takes;
                stack[top - 1] = Step.result(step, a, b, names);
            }
            return Math.max(0, Math.min(stack[0], part == CHAR ? CHAR_MOST : PULL_MOST));
        }
    }

    /** THE TAPE, and the reading of a TEXT from it into a code. */
    private static final class Tape {
        // a sign's token is its own number, so all others lie above 255
        private static final int CHAR_KEY = 300, PULL_KEY = 301, STAND_KEY = 302;
        private static final int OR_KEY = 303, AND_KEY = 304, NOT_KEY = 305;
        private static final int NUMBER = 306, END = 307, NO_TOKEN = 308;
        private static final int FIRST_NAME_TOKEN = 310;
        private static final int OPEN_MOST = 5, DIGITS_MOST = 4;

        private final int[] bytes = new int[TAPE_MOST];
        private int size = 0;
        private final int[] code = new int[TAPE_MOST];
        private final int[] ends = new int[3];
        private int filled = 0;
        private int fault = -1;
        private int open = 0;
        private int next = 0;
        private int token = END;
        private int start = 0;
        private int number = 0;

        void append(int b) {
            if (size < TAPE_MOST) {
                bytes[size] = b;
                size++;
            }
        }

        void empty() {
            size = 0;
        }

        /** The place of the FAULT; -1: none, then code and ends tell the TEXT. */
        int read() {
            filled = 0;
            fault = -1;
            open = 0;
            next = 0;
            advance();
            for (int part = CHAR; part <= STAND; part++) {
                expect(CHAR_KEY + part);
                readEither();
                expect(';');
                ends[part] = filled;
            }
            if (token != END) {
                fail();
            }
            return fault;
        }

        private void fail() {
            if (fault < 0) {
                fault = start;
            }
        }

        private void expect(int wanted) {
            if (token == wanted) {
                advance();
            } else {
                fail();
            }
        }

        private void emit(int step) {
            if (fault < 0 && filled < TAPE_MOST) {
                code[filled] = step;
                filled++;
            }
        }

        private boolean opens() {
            if (open >= OPEN_MOST) {
                fail();
            }
            if (fault >= 0) {
                return false;
            }
            open++;
            return true;
        }

        private void readEither() {
            readBoth();
            for (int i = 0; i < TAPE_MOST && fault < 0 && token == OR_KEY; i++) {
                advance();
                readBoth();
                emit(Step.OR);
            }
        }

        private void readBoth() {
            readNot();
            for (int i = 0; i < TAPE_MOST && fault < 0 && token == AND_KEY; i++) {
                advance();
                readNot();
                emit(Step.AND);
            }
        }

        private void readNot() {
            if (token == NOT_KEY) {
                if (opens()) {
                    advance();
                    readNot();
                    emit(Step.NOT);
                    open--;
                }
                return;
            }
            readSum();
            if (token == '<' || token == '=') {
                int step = token == '<' ? Step.LESS : Step.SAME;
                advance();
                readSum();
                emit(step);
            }
        }

        private void readSum() {
            readTerm();
            for (int i = 0; i < TAPE_MOST && fault < 0 && (token == '+' || token == '-'); i++) {
                int step = token == '+' ? Step.PLUS : Step.MINUS;
                advance();
                readTerm();
                emit(step);
            }
        }

        private void readTerm() {
            readOne();
            for (int i = 0; i < TAPE_MOST && fault < 0 && token == '*'; i++) {
                advance();
                readOne();
                emit(Step.TIMES);
            }
        }

        private void readOne() {
            if (fault >= 0) {
                return;
            }
            if (token == NUMBER) {
                emit(number);
                advance();
            } else if (within(token, FIRST_NAME_TOKEN, FIRST_NAME_TOKEN + Step.NAMES - 1)) {
                emit(Step.FIRST_NAME - (token - FIRST_NAME_TOKEN));
                advance();
            } else if (token == '-') {
                if (opens()) {
                    advance();
                    readOne();
                    emit(Step.NEGATE);
                    open--;
                }
            } else if (token == '(') {
                if (opens()) {
                    advance();
                    readEither();
                    expect(')');
                    open--;
                }
            } else {
                fail();
            }
        }

        private int byteAt(int i) {
            return i >= 0 && i < size && i < TAPE_MOST ? bytes[i] : -1;
        }

        private static boolean isLetter(int b) {
            return within(b, 'a', 'z');
        }

        private static boolean isDigit(int b) {
            return within(b, '0', '9');
        }

        /** Goes on to the token behind, but never past a FAULT. */
        private void advance() {
            if (fault >= 0) {
                return;
            }
            for (int i = 0; i < TAPE_MOST && (byteAt(next) == ' ' || byteAt(next) == 10); i++) {
                next++;
            }
            start = next;
            int first = byteAt(next);
            if (first < 0) {
                token = END;
            } else if (isLetter(first)) {
                for (int i = 0; i < TAPE_MOST && isLetter(byteAt(next)); i++) {
                    next++;
                }
                token = wordToken();
            } else if (isDigit(first)) {
                number = 0;
                for (int i = 0; i < TAPE_MOST && isDigit(byteAt(next)); i++) {
                    // a longer one than is told can't stand, so it doesn't matter that it wraps
                    number = number * 10 + byteAt(next) - '0';
                    next++;
                }
                token = next - start > DIGITS_MOST ? NO_TOKEN : NUMBER;
            } else {
                next++;
                token = isSign(first) ? first : NO_TOKEN;
            }
        }

        private static boolean isSign(int b) {
            return b == '(' || b == ')' || b == ';' || b == '+' || b == '-' || b == '*' || b == '<'
                || b == '=';
        }

        private int wordToken() {
            if (spells("char")) {
                return CHAR_KEY;
            } else if (spells("pull")) {
                return PULL_KEY;
            } else if (spells("stand")) {
                return STAND_KEY;
            } else if (spells("or")) {
                return OR_KEY;
            } else if (spells("and")) {
                return AND_KEY;
            } else if (spells("not")) {
                return NOT_KEY;
            } else if (spells("heat")) {
                return FIRST_NAME_TOKEN;
            } else if (spells("wind")) {
                return FIRST_NAME_TOKEN + 1;
            } else if (spells("sap")) {
                return FIRST_NAME_TOKEN + 2;
            } else if (spells("thick")) {
                return FIRST_NAME_TOKEN + 3;
            } else if (spells("knot")) {
                return FIRST_NAME_TOKEN + 4;
            } else if (spells("wide")) {
                return FIRST_NAME_TOKEN + 5;
            }
            return NO_TOKEN;
        }

        private boolean spells(String word) {
            if (next - start != word.length()) {
                return false;
            }
            for (int i = 0; i < word.length(); i++) {
                if (byteAt(start + i) != word.charAt(i)) {
                    return false;
                }
            }
            return true;
        }
    }

    /** The WORKINGS: what they are and the days they take. */
    private static final class Works {
        private static final int[] KIND_ABOVE = {-1, WORK, CHARRED, WORK, WORK, SEWN};

        private final int[] kinds = new int[WORKS_MOST];
        private final int[] sections = new int[WORKS_MOST];
        private final int[] mores = new int[WORKS_MOST];
        private int size = 0;

        boolean has(int w) {
            return w >= 0 && w < size && w < WORKS_MOST;
        }

        int kind(int w) {
            return has(w) ? kinds[w] : 0;
        }

        int section(int w) {
            return has(w) ? sections[w] : 0;
        }

        int more(int w) {
            return has(w) ? mores[w] : 0;
        }

        int add(int kind, int section, int more) {
            if (!within(kind, WORK, RAISED) || !within(section, 0, ALL_SECTIONS)
                || !within(more, 0, 9)) {
                return BAD;
            }
            if (size < 0 || size >= WORKS_MOST) {
                return FULL;
            }
            kinds[size] = kind;
            sections[size] = section;
            mores[size] = more;
            size++;
            return size - 1;
        }

        static boolean isOne(int kind, int of) {
            int k = kind;
            for (int i = 0; i <= RAISED && within(k, WORK, RAISED); i++) {
                if (k == of) {
                    return true;
                }
                k = KIND_ABOVE[k];
            }
            return false;
        }

        private int daysOfOneMan(int w) {
            int plain = 1 + more(w);
            int charred = section(w) == ALL_SECTIONS ? 2 * plain : plain;
            switch (kind(w)) {
                case CHARRED:
                    return charred;
                case PEGGED:
                    return charred + 2;
                case SEWN:
                    return 2 * plain;
                case RAISED:
                    return 2 * plain + 3;
                default:
                    return plain;
            }
        }

        int daysBy(int w, int men) {
            return men < 1 ? 0 : (daysOfOneMan(w) + men - 1) / men;
        }

        int allDaysBy(int n, int men) {
            int all = 0;
            for (int w = 0; w < n && w < size; w++) {
                all += daysBy(w, men);
            }
            return all;
        }

        int longest(int n, int men) {
            int longest = -1;
            for (int w = 0; w < n && w < size; w++) {
                if (longest < 0 || daysBy(w, men) > daysBy(longest, men)) {
                    longest = w;
                }
            }
            return longest;
        }
    }

    /** The one HULL, made anew for each call that asks for one. */
    private static final class Hull {
        // below all that STAND and GRAIN can spare
        private static final int NOTHING_LACKS = -1000000;
        private static final long LOT_TIMES = 48271L, LOT_MODULO = 2147483647L;

        private final Wood wood;
        private final Laws laws;
        private final int[] wide = new int[SECTIONS];
        private final int[] thick = new int[SECTIONS];
        private final int[] high = new int[SECTIONS];
        private final int[] names = new int[Step.NAMES];
        private int broken = 0;
        private int spread = 0;
        private int firstBreak = -1;
        private int watched = 0;
        private int lacks = NOTHING_LACKS;
        private long lot = 0;

        Hull(Wood wood, Laws laws) {
            this.wood = wood;
            this.laws = laws;
        }

        void begin() {
            for (int s = 0; s < SECTIONS; s++) {
                wide[s] = wood.of(WIDE, s);
                thick[s] = wood.of(THICK, s);
                high[s] = wood.of(HIGH, s);
            }
            names[0] = wood.setting(HEAT);
            names[1] = wood.setting(WIND);
            names[2] = wood.setting(SAP);
            broken = 0;
            spread = 0;
            firstBreak = -1;
            watched = 0;
            lacks = NOTHING_LACKS;
            lot = 0;
        }

        void blow(int wind) {
            names[1] = wind;
        }

        /** From here on each hour of FIRE takes a LOT, or none by NO_SEED (no LOT is ever 0). */
        void drawBy(int seed) {
            lot = seed + 1L;
        }

        int asked(int part, int thickNow, int wideNow, int knots) {
            names[3] = thickNow;
            names[4] = knots;
            names[5] = wideNow;
            return laws.answer(wood.law, part, names);
        }

        boolean isBroken(int s) {
            return (broken & bit(s)) != 0;
        }

        private static int bit(int s) {
            return isSection(s) ? 1 << s : 0;
        }

        void fire(int s) {
            if (!isSection(s)) {
                return;
            }
            int deep = asked(CHAR, thick[s], wide[s], wood.of(KNOT, s));
            if (lot != 0) {
                lot = lot * LOT_TIMES % LOT_MODULO;
                deep = Math.max(0, deep + (int) (lot % 3) - 1);
            }
            thick[s] -= deep;
            if (thick[s] <= 0) {
                thick[s] = 0;
                broken |= bit(s);
            }
        }

        void burn(int s, int hours, int downTo) {
            for (int h = 0; h < hours && isSection(s) && thick[s] > downTo; h++) {
                fire(s);
            }
        }

        void inch() {
            spread++;
            for (int s = 0; s < SECTIONS; s++) {
                wide[s] += share(s);
                if (share(s) == 0 && spread % 2 == 0) {
                    high[s]++;
                }
                int pull = asked(PULL, thick[s], wide[s], wood.of(KNOT, s));
                int stand = asked(STAND, thick[s], wide[s], wood.of(KNOT, s));
                int lack = pull * share(s) - (stand + wood.of(GRAIN, s)) * 4;
                if (lack > 0) {
                    broken |= bit(s);
                }
                if ((watched & bit(s)) != 0 && lack > lacks) {
                    lacks = lack;
                }
            }
        }

        void spreadBy(int inches) {
            for (int i = 0; i < inches && spread < INCHES_MOST; i++) {
                inch();
            }
        }

        /** From here on the INCHES tell what GRAIN lacks at worst in a SECTION that is whole now. */
        void watch() {
            watched = ~broken;
            lacks = NOTHING_LACKS;
        }

        /** For how many k from less v to v nothing cracked since watch(), all GRAIN being k more. */
        int chancesWhole(int v) {
            int whole = 0;
            for (int k = -v; k <= v; k++) {
                // an INCH never looks at what is BROKEN, so one run of it tells for every k
                if (lacks <= 4 * k) {
                    whole++;
                }
            }
            return whole;
        }

        void make(int kind, int section, int more) {
            int from = section == ALL_SECTIONS ? 0 : section;
            int to = section == ALL_SECTIONS ? SECTIONS - 1 : section;
            if (!isSection(from) || !isSection(to)) {
                return;
            }
            switch (kind) {
                case CHARRED: case PEGGED:
                    for (int s = from; s <= to; s++) {
                        burn(s, more, kind == PEGGED ? wood.of(PEG, s) : 0);
                    }
                    break;
                case SPREAD:
                    spreadBy(more);
                    break;
                case SEWN:
                    sew(from, to, more);
                    break;
                case RAISED:
                    sew(from, to, more);
                    for (int s = from; s <= to; s++) {
                        high[s] += more;
                    }
                    break;
                default:
                    break;
            }
        }

        private void sew(int from, int to, int most) {
            int sewn = 0;
            for (int s = from; s <= to && isSection(s); s++) {
                if (sewn < most && isBroken(s) && thick[s] > 0) {
                    broken &= ~bit(s);
                    sewn++;
                }
            }
        }

        int allWide() {
            int all = 0;
            for (int s = 0; s < SECTIONS; s++) {
                all += wide[s];
            }
            return all;
        }

        int leastHigh() {
            int least = high[0];
            for (int s = 1; s < SECTIONS; s++) {
                least = Math.min(least, high[s]);
            }
            return least;
        }

        int weight() {
            int all = 0;
            for (int s = 0; s < SECTIONS; s++) {
                // each SECTION is cut by itself: the sentence on the weight tells no "together"
                all += thick[s] * (wide[s] + 2 * high[s]) / 4;
            }
            return all;
        }

        int draught(int load) {
            int all = allWide();
            return all < 1 ? 0 : (weight() + load + all - 1) / all;
        }

        boolean sinks(int load) {
            return broken != 0 || draught(load) > leastHigh();
        }

        int steadiness(int draught) {
            int all = 0;
            for (int s = 0; s < SECTIONS; s++) {
                all += wide[s] * wide[s];
            }
            return draught < 0 ? 0 : all / (draught + 1);
        }

        /** The SECTIONS (bits) that crack in so many DRY DAYS. */
        int driedApart(int days) {
            int cracked = 0;
            int dry = wood.setting(SAP) * days * (wood.setting(SEASON) + 1);
            for (int s = 0; s < SECTIONS; s++) {
                int holds = wood.of(GRAIN, s) * thick[s] - 20 * wood.of(KNOT, s);
                if (!isBroken(s) && thick[s] > 0 && dry > holds) {
                    cracked |= bit(s);
                }
            }
            return cracked;
        }
    }

    /** A number above a line and one below it. */
    private static final class Fraction {
        private final long above;
        private final long below;

        Fraction(long above, long below) {
            this.above = above;
            this.below = Math.max(below, 1);
        }

        boolean isAbove(Fraction other) {
            return above * other.below > other.above * below;
        }

        /** In lowest terms: 0 what is above the line, 1 what is below it; else NO. */
        long part(int part) {
            if (!within(part, 0, 1)) {
                return NO;
            }
            long common = commonOf(below, above);
            if (common < 1) {
                return NO;
            }
            return part == 0 ? above / common : below / common;
        }

        private static long commonOf(long a, long b) {
            long x = a;
            long y = b;
            for (int i = 0; i < 200 && y != 0; i++) {
                long rest = x % y;
                x = y;
                y = rest;
            }
            return x;
        }
    }

    /** A TREE. */
    private static final class Tree {
        private static final int NOT_BORED = -1;

        private final int[] rings = new int[RINGS];
        private int girth = 1;
        private int lean = 0;
        private int knots = 0;
        private int bored = NOT_BORED;

        int goodBy(int ring) {
            return Math.max(0, girth - 6 * ring - 3 * knots);
        }

        int counts(int ring) {
            return within(ring, 0, RINGS - 1) ? rings[ring] : 0;
        }

        Fraction mean() {
            if (bored != NOT_BORED) {
                return new Fraction(goodBy(bored), 1);
            }
            long good = 0;
            long all = 0;
            for (int ring = 0; ring < RINGS; ring++) {
                good += (long) counts(ring) * goodBy(ring);
                all += counts(ring);
            }
            return new Fraction(good, all);
        }

        int hurtBy(int side, int boughs) {
            int away = Math.abs(side - (lean < 0 ? SIDES / 2 : 0));
            int turns = Math.min(away, SIDES - away);
            boolean isBedded = (boughs >> (side & (SIDES - 1)) & 1) != 0;
            int hurt = Math.abs(lean) * turns + 3 * knots + girth / 10 - (isBedded ? 12 : 0);
            return Math.max(0, hurt);
        }
    }

    /** The TREES. */
    private static final class Grove {
        private final Tree[] trees = new Tree[TREES_MOST];
        private int size = 0;

        Tree at(int t) {
            return t >= 0 && t < size && t < TREES_MOST ? trees[t] : null;
        }

        int add(int girth, int lean, int knots, Sheet rings) {
            if (size < 0 || size >= TREES_MOST) {
                return FULL;
            }
            Tree tree = new Tree();
            tree.girth = girth;
            tree.lean = lean;
            tree.knots = knots;
            for (int ring = 0; ring < RINGS; ring++) {
                tree.rings[ring] = rings.at(ring);
            }
            trees[size] = tree;
            size++;
            return size - 1;
        }

        Fraction mean(int t) {
            Tree tree = at(t);
            return tree == null ? new Fraction(0, 1) : tree.mean();
        }

        /** The TREE that is best in the mean of all but one, of like ones the first; -1: none. */
        int bestBut(int but) {
            int best = -1;
            for (int t = 0; t < size; t++) {
                if (t != but && (best < 0 || mean(t).isAbove(mean(best)))) {
                    best = t;
                }
            }
            return best;
        }

        Fraction holeWorth(int t) {
            Tree tree = at(t);
            if (tree == null || tree.bored != Tree.NOT_BORED) {
                return new Fraction(0, 1);
            }
            Fraction other = mean(bestBut(t));
            long bored = 0;
            long blind = 0;
            long all = 0;
            for (int ring = 0; ring < RINGS; ring++) {
                long good = tree.goodBy(ring) * other.below;
                bored += tree.counts(ring) * Math.max(good, other.above);
                blind += tree.counts(ring) * good;
                all += tree.counts(ring);
            }
            return new Fraction(bored - Math.max(blind, other.above * all), all * other.below);
        }
    }

    /** A SHEET: a row of numbers of a sort, or missing. */
    private static final class Sheet {
        private static final int NO_SORT = -1, BYTES = 0, SHORTS = 1, INTS = 2;

        private final int[] row = new int[SHEET_MOST];
        private int sort = NO_SORT;
        private int size = 0;

        void become(int newSort, int n) {
            sort = newSort;
            size = newSort == NO_SORT ? 0 : Math.max(0, Math.min(n, SHEET_MOST));
            for (int i = 0; i < SHEET_MOST; i++) {
                row[i] = 0;
            }
        }

        boolean isMissing() {
            return sort == NO_SORT;
        }

        boolean has(int i) {
            return i >= 0 && i < size && i < SHEET_MOST;
        }

        boolean hasAll(int from, int n) {
            return n >= 0 && from >= 0 && from <= size - n;
        }

        int at(int i) {
            return has(i) ? row[i] : 0;
        }

        void put(int i, int v) {
            if (!has(i)) {
                return;
            }
            if (sort == BYTES) {
                row[i] = (byte) v;
            } else if (sort == SHORTS) {
                row[i] = (short) v;
            } else {
                row[i] = v;
            }
        }
    }
}
