import java.math.BigInteger;
import java.util.ArrayList;
import java.util.Arrays;
import java.util.List;
import java.util.function.IntBinaryOperator;
import java.util.function.ToIntFunction;

/**
 * The document once more, in another way and without care for speed: trees of functions for the
 * texts, a new hull for every question, fractions of BigIntegers, every chance tried by itself.
 * Runs of calls on it and on HollowedByFire must answer alike.
 */
public final class Slow {
    private static final long NO = -4611686018427387904L;
    private static final int[] LEAST = {1, 1, 1, 1, 0, 0};
    private static final int[] MOST = {99, 20, 99, 99, 1, 20};

    private int[][] carved = {
        fill(20), fill(8), fill(10), fill(30), fill(0), fill(2)
    };
    private int[] around = {5, 0, 3, 2, 0};
    private int law = 0;
    private StringBuilder tape = new StringBuilder();
    private final List<List<Expr>> texts = new ArrayList<>();
    private final List<int[]> works = new ArrayList<>();
    private final List<Trunk> trees = new ArrayList<>();
    private final Object[] sheets = new Object[4];
    private int[][] keptCarved;
    private int[] keptAround;
    private int keptLaw;
    private List<Integer> keptBored;

    private interface Expr {
        int of(int[] names);
    }

    private static final class Trunk {
        int girth;
        int lean;
        int knots;
        int[] rings;
        int bored = -1;
    }

    public Slow() {
        texts.add(new Parse("char 1 + (sap < heat) ; pull thick * 2 + knot * 9 + wide ; stand heat * 3 ;").text());
    }

    private static int[] fill(int v) {
        int[] row = new int[9];
        Arrays.fill(row, v);
        return row;
    }

    private static boolean out(int v, int least, int most) {
        return v < least || v > most;
    }

    // ---- texts: all tokens first, then a grammar over them

    private static final class Fault extends RuntimeException {
        private static final long serialVersionUID = 1L;
        final int place;

        Fault(int place) {
            super(null, null, false, false);
            this.place = place;
        }
    }

    private static final class Parse {
        private final List<String> tokens = new ArrayList<>();
        private final List<Integer> places = new ArrayList<>();
        private int at = 0;

        Parse(String s) {
            int i = 0;
            while (i < s.length()) {
                char c = s.charAt(i);
                if (c == 32 || c == 10) {
                    i++;
                    continue;
                }
                int from = i;
                i++;
                if (c >= 'a' && c <= 'z') {
                    while (i < s.length() && s.charAt(i) >= 'a' && s.charAt(i) <= 'z') {
                        i++;
                    }
                } else if (c >= '0' && c <= '9') {
                    while (i < s.length() && s.charAt(i) >= '0' && s.charAt(i) <= '9') {
                        i++;
                    }
                }
                tokens.add(s.substring(from, i));
                places.add(from);
            }
            tokens.add("");
            places.add(s.length());
        }

        private String seen() {
            return tokens.get(at);
        }

        private Fault fault() {
            return new Fault(places.get(at));
        }

        private void take(String wanted) {
            if (!seen().equals(wanted)) {
                throw fault();
            }
            at++;
        }

        List<Expr> text() {
            List<Expr> three = new ArrayList<>();
            for (String key : new String[] {"char", "pull", "stand"}) {
                take(key);
                three.add(binary(0, 0));
                take(";");
            }
            take("");
            return three;
        }

        private static final String[][] LEVELS = {{"or"}, {"and"}, {"<", "="}, {"+", "-"}, {"*"}};

        private static IntBinaryOperator operator(String sign) {
            switch (sign) {
                case "or":
                    return (a, b) -> a != 0 | b != 0 ? 1 : 0;
                case "and":
                    return (a, b) -> a != 0 & b != 0 ? 1 : 0;
                case "<":
                    return (a, b) -> a < b ? 1 : 0;
                case "=":
                    return (a, b) -> a == b ? 1 : 0;
                case "+":
                    return (a, b) -> (int) ((long) a + b);
                case "-":
                    return (a, b) -> (int) ((long) a - b);
                default:
                    return (a, b) -> (int) ((long) a * b);
            }
        }

        private Expr binary(int level, int open) {
            if (level == LEVELS.length) {
                return one(open);
            }
            if (level == 2 && seen().equals("not")) {
                if (open == 5) {
                    throw fault();
                }
                at++;
                Expr inner = binary(2, open + 1);
                return n -> inner.of(n) == 0 ? 1 : 0;
            }
            Expr left = binary(level + 1, open);
            while (Arrays.asList(LEVELS[level]).contains(seen())) {
                IntBinaryOperator operator = operator(seen());
                at++;
                Expr a = left;
                Expr b = binary(level + 1, open);
                left = n -> operator.applyAsInt(a.of(n), b.of(n));
                if (level == 2) {
                    break;
                }
            }
            return left;
        }

        private Expr one(int open) {
            String token = seen();
            int name = Arrays.asList("heat", "wind", "sap", "thick", "knot", "wide").indexOf(token);
            if (name >= 0) {
                at++;
                return n -> n[name];
            }
            if (!token.isEmpty() && Character.isDigit(token.charAt(0)) && token.length() <= 4) {
                int value = Integer.parseInt(token);
                at++;
                return n -> value;
            }
            if (!token.equals("-") && !token.equals("(") || open == 5) {
                throw fault();
            }
            at++;
            if (token.equals("-")) {
                Expr inner = one(open + 1);
                return n -> -inner.of(n);
            }
            Expr inner = binary(0, open + 1);
            take(")");
            return inner;
        }
    }

    private int ask(int part, int thick, int wide, int knot, int wind) {
        int[] names = {around[0], wind, around[2], thick, knot, wide};
        int v = texts.get(law).get(part).of(names);
        return v < 0 ? 0 : Math.min(v, part == 0 ? 9 : 999);
    }

    // ---- hulls

    private static int share(int s) {
        return new int[] {0, 1, 2, 3, 4, 3, 2, 1, 0}[s];
    }

    private final class Boat {
        final int[] wide = carved[0].clone();
        final int[] thick = carved[1].clone();
        final int[] high = carved[2].clone();
        final boolean[] broken = new boolean[9];
        int spread = 0;
        int more = 0;
        long lot = -1;
        int wind = around[1];

        Boat() {
        }

        Boat(int n, long seed) {
            if (seed >= 0) {
                lot = seed + 1;
            }
            for (int w = 0; w < n; w++) {
                work(works.get(w));
            }
        }

        void work(int[] work) {
            int kind = work[0];
            int more = work[2];
            List<Integer> mine = new ArrayList<>();
            for (int s = 0; s < 9; s++) {
                if (work[1] == 9 || work[1] == s) {
                    mine.add(s);
                }
            }
            if (kind == 1 || kind == 2) {
                for (int s : mine) {
                    for (int h = 0; h < more; h++) {
                        if (thick[s] > 0 && (kind == 1 || thick[s] > carved[5][s])) {
                            fire(s);
                        }
                    }
                }
            }
            if (kind == 3) {
                inches(more);
            }
            if (kind == 4 || kind == 5) {
                int left = more;
                for (int s : mine) {
                    if (left > 0 && broken[s] && thick[s] != 0) {
                        broken[s] = false;
                        left--;
                    }
                    high[s] += kind == 5 ? more : 0;
                }
            }
        }

        void fire(int s) {
            int c = ask(0, thick[s], wide[s], carved[4][s], wind);
            if (lot >= 0) {
                lot = BigInteger.valueOf(lot).multiply(BigInteger.valueOf(48271))
                    .mod(BigInteger.valueOf(2147483647)).longValue();
                c = Math.max(0, c + (int) (lot % 3) - 1);
            }
            thick[s] -= c;
            if (thick[s] <= 0) {
                thick[s] = 0;
                broken[s] = true;
            }
        }

        void inches(int n) {
            for (int i = 0; i < n; i++) {
                if (spread < 12) {
                    spread++;
                    for (int s = 0; s < 9; s++) {
                        wide[s] += share(s);
                        if (s % 8 == 0 && spread % 2 == 0) {
                            high[s]++;
                        }
                        int pull = ask(1, thick[s], wide[s], carved[4][s], wind);
                        int stand = ask(2, thick[s], wide[s], carved[4][s], wind);
                        if (pull * share(s) > (stand + carved[3][s] + more) * 4) {
                            broken[s] = true;
                        }
                    }
                }
            }
        }

        int bits() {
            int bits = 0;
            for (int s = 0; s < 9; s++) {
                bits += broken[s] ? 1 << s : 0;
            }
            return bits;
        }

        int weight() {
            return sum(s -> thick[s] * (wide[s] + 2 * high[s]) / 4);
        }

        int sum(ToIntFunction<Integer> f) {
            int all = 0;
            for (int s = 0; s < 9; s++) {
                all += f.applyAsInt(s);
            }
            return all;
        }

        int leastHigh() {
            return Arrays.stream(high).min().getAsInt();
        }

        /** -1: it sinks. */
        int draught(int load) {
            int all = sum(s -> wide[s]);
            int up = weight() + load;
            int draught = up / all + (up % all == 0 ? 0 : 1);
            return bits() != 0 || draught > leastHigh() ? -1 : draught;
        }
    }

    private int cracks(int n, int inches, int more) {
        Boat boat = new Boat(n, -1);
        int ahead = boat.bits();
        boat.more = more;
        boat.inches(inches);
        return boat.bits() & ~ahead;
    }

    // ---- fractions

    private static final class Ratio implements Comparable<Ratio> {
        static final Ratio ZERO = new Ratio(0, 1);
        final BigInteger above;
        final BigInteger below;

        Ratio(long above, long below) {
            this(BigInteger.valueOf(above), BigInteger.valueOf(below));
        }

        Ratio(BigInteger above, BigInteger below) {
            BigInteger common = above.gcd(below);
            this.above = above.divide(common);
            this.below = below.divide(common);
        }

        Ratio plus(Ratio o) {
            return new Ratio(above.multiply(o.below).add(o.above.multiply(below)), below.multiply(o.below));
        }

        Ratio times(long v) {
            return new Ratio(above.multiply(BigInteger.valueOf(v)), below);
        }

        Ratio by(long v) {
            return new Ratio(above, below.multiply(BigInteger.valueOf(v)));
        }

        Ratio max(Ratio o) {
            return compareTo(o) >= 0 ? this : o;
        }

        @Override
        public int compareTo(Ratio o) {
            return above.multiply(o.below).compareTo(o.above.multiply(below));
        }

        long part(int part) {
            return part == 0 ? above.longValueExact() : part == 1 ? below.longValueExact() : NO;
        }
    }

    // ---- the calls

    public int carve(int s, int what, int v) {
        if (out(s, 0, 8)) {
            return -5;
        }
        if (out(what, 0, 5) || out(v, LEAST[what], MOST[what])) {
            return -7;
        }
        int was = carved[what][s];
        carved[what][s] = v;
        return was;
    }

    public int carved(int s, int what) {
        return out(s, 0, 8) ? -5 : out(what, 0, 5) ? -7 : carved[what][s];
    }

    public int set(int what, int v) {
        if (out(what, 0, 4)) {
            return -1;
        }
        if (what == 3 ? out(v, 1, 5) : out(v, 0, 9)) {
            return -2;
        }
        int was = around[what];
        around[what] = v;
        return was;
    }

    public int count(int what) {
        int[] all = {around[0], around[1], around[2], around[3], around[4], works.size(), trees.size(),
            texts.size(), law, tape.length()};
        return out(what, 0, 9) ? -2 : all[what];
    }

    public int feed(long w, int n) {
        if (out(n, 1, 8)) {
            return -2;
        }
        if (tape.length() + n > 160) {
            return -4;
        }
        for (int i = n; i > 0; i--) {
            tape.append((char) (w >> 8 * (i - 1) & 0xff));
        }
        return tape.length();
    }

    public int text() {
        if (texts.size() == 6) {
            return -4;
        }
        String s = tape.toString();
        tape = new StringBuilder();
        try {
            texts.add(new Parse(s).text());
            return texts.size() - 1;
        } catch (Fault f) {
            return -100 - f.place;
        }
    }

    public int force(int t) {
        if (out(t, 0, texts.size() - 1)) {
            return -2;
        }
        int was = law;
        law = t;
        return was;
    }

    public int asks(int part, int thickNow, int wideNow, int knots) {
        if (out(part, 0, 2) || out(thickNow, 0, 20) || out(wideNow, 0, 198) || out(knots, 0, 1)) {
            return -2;
        }
        return ask(part, thickNow, wideNow, knots, around[1]);
    }

    public int work(int kind, int section, int more) {
        if (out(kind, 0, 5) || out(section, 0, 9) || out(more, 0, 9)) {
            return -2;
        }
        if (works.size() == 10) {
            return -4;
        }
        works.add(new int[] {kind, section, more});
        return works.size() - 1;
    }

    public int forget() {
        if (works.isEmpty()) {
            return -3;
        }
        works.remove(works.size() - 1);
        return works.size();
    }

    private int manDays(int[] work) {
        int plain = 1 + work[2];
        int charred = plain * (work[1] == 9 ? 2 : 1);
        return new int[] {plain, charred, charred + 2, plain, plain * 2, plain * 2 + 3}[work[0]];
    }

    private int allDays(int[] work, int men) {
        return (int) Math.ceil(manDays(work) / (double) men);
    }

    public int workTold(int w, int what) {
        if (out(w, 0, works.size() - 1)) {
            return -5;
        }
        if (out(what, 0, 3)) {
            return -7;
        }
        return what == 3 ? allDays(works.get(w), around[3]) : works.get(w)[what];
    }

    private boolean no(int n) {
        return out(n, 0, works.size());
    }

    public int hull(int n, int s, int what) {
        if (no(n)) {
            return -5;
        }
        if (out(s, 0, 8) || out(what, 0, 3)) {
            return -7;
        }
        Boat b = new Boat(n, -1);
        return what == 3 ? (b.broken[s] ? 1 : 0) : new int[][] {b.wide, b.thick, b.high}[what][s];
    }

    public int state(int n, int what) {
        if (no(n)) {
            return -5;
        }
        if (out(what, 0, 2)) {
            return -7;
        }
        if (what < 2) {
            Boat b = new Boat(n, -1);
            return what == 0 ? b.bits() : b.spread;
        }
        for (int w = 0; w < n; w++) {
            if ((new Boat(w + 1, -1).bits() & ~new Boat(w, -1).bits()) != 0) {
                return w;
            }
        }
        return -1;
    }

    public int days(int n, int what) {
        if (no(n)) {
            return -5;
        }
        if (out(what, 0, 1)) {
            return -7;
        }
        int all = 0;
        int longest = -1;
        int most = -1;
        for (int w = 0; w < n; w++) {
            int d = allDays(works.get(w), around[3]);
            all += d;
            if (d > most) {
                most = d;
                longest = w;
            }
        }
        return what == 0 ? all : longest;
    }

    public int fewest(int n, int most) {
        if (no(n)) {
            return -5;
        }
        if (out(most, 0, 999)) {
            return -7;
        }
        for (int men = 1; men < 6; men++) {
            int m = men;
            if (works.subList(0, n).stream().mapToInt(w -> allDays(w, m)).sum() <= most) {
                return men;
            }
        }
        return -1;
    }

    public int crack(int n, int inches) {
        return no(n) ? -5 : out(inches, 0, 12) ? -7 : cracks(n, inches, 0);
    }

    public int far(int n) {
        if (no(n)) {
            return -5;
        }
        int i = 12 - new Boat(n, -1).spread;
        while (cracks(n, i, 0) != 0) {
            i--;
        }
        return i;
    }

    private int whole(int n, int inches, int v) {
        int whole = 0;
        for (int k = -v; k <= v; k++) {
            whole += cracks(n, inches, k) == 0 ? 1 : 0;
        }
        return whole;
    }

    public long odds(int n, int inches, int v, int part) {
        if (no(n) || out(inches, 0, 12) || out(v, 0, 5) || out(part, 0, 1)) {
            return NO;
        }
        return new Ratio(whole(n, inches, v), 2 * v + 1).part(part);
    }

    public int stop(int n, int inch, int cost, int v) {
        if (no(n)) {
            return -5;
        }
        if (out(inch, 0, 999) || out(cost, 0, 9999) || out(v, 0, 5)) {
            return -7;
        }
        int best = 0;
        Ratio most = Ratio.ZERO;
        int room = 12 - new Boat(n, -1).spread;
        for (int i = 0; i <= room; i++) {
            int whole = whole(n, i, v);
            Ratio mean = new Ratio(whole, 2 * v + 1).times((long) i * inch)
                .plus(new Ratio(2 * v + 1 - whole, 2 * v + 1).times(-cost));
            if (mean.compareTo(most) > 0) {
                most = mean;
                best = i;
            }
        }
        return best;
    }

    // ---- sheets

    private int size(int s) {
        Object o = sheets[s];
        return o instanceof byte[] ? ((byte[]) o).length
            : o instanceof short[] ? ((short[]) o).length : ((int[]) o).length;
    }

    private int at(int s, int i) {
        Object o = sheets[s];
        return o instanceof byte[] ? ((byte[]) o)[i]
            : o instanceof short[] ? ((short[]) o)[i] : ((int[]) o)[i];
    }

    private int sort(Object o) {
        return o instanceof byte[] ? 0 : o instanceof short[] ? 1 : 2;
    }

    private int noSheet(int s) {
        return out(s, 0, 3) ? -2 : sheets[s] == null ? -11 : 0;
    }

    private int noWidths(int s) {
        if (noSheet(s) != 0) {
            return noSheet(s);
        }
        if (size(s) != 9) {
            return -2;
        }
        for (int i = 0; i < 9; i++) {
            if (out(at(s, i), 1, 198)) {
                return -2;
            }
        }
        return 0;
    }

    /** Null: it can't be CARVED. */
    private int[] toCarve(int s, int inches) {
        int[] row = new int[9];
        for (int i = 0; i < 9; i++) {
            row[i] = at(s, i) - inches * share(i);
            if (out(row[i], 1, 99)) {
                return null;
            }
        }
        return row;
    }

    public int wished(int s, int inches, int section) {
        if (out(section, 0, 8)) {
            return -5;
        }
        if (out(inches, 0, 12)) {
            return -7;
        }
        if (noWidths(s) != 0) {
            return noWidths(s);
        }
        int wide = at(s, section) - inches * share(section);
        return out(wide, 1, 99) ? -1 : wide;
    }

    public int old(int s) {
        if (noWidths(s) != 0) {
            return noWidths(s);
        }
        int best = -1;
        int least = Integer.MAX_VALUE;
        for (int i = 0; i <= 12; i++) {
            int[] row = toCarve(s, i);
            if (row != null) {
                int uneven = 0;
                for (int k = 0; k < 8; k++) {
                    uneven += Math.abs(row[k] - row[k + 1]);
                }
                if (uneven < least) {
                    least = uneven;
                    best = i;
                }
            }
        }
        return best;
    }

    public int copyOf(int s, int inches) {
        if (noWidths(s) != 0) {
            return noWidths(s);
        }
        if (out(inches, 0, 12) || toCarve(s, inches) == null) {
            return -3;
        }
        int[] row = toCarve(s, inches);
        int other = 0;
        for (int i = 0; i < 9; i++) {
            other += row[i] != carved[0][i] ? 1 : 0;
        }
        carved[0] = row;
        return other;
    }

    public int even(int s, int told) {
        if (out(s, 0, 8)) {
            return -5;
        }
        if (out(told, 0, 999)) {
            return -7;
        }
        int best = 1;
        for (int t = 20; t >= 1; t--) {
            int here = Math.abs(ask(1, t, carved[0][s], carved[4][s], around[1]) - told);
            int there = Math.abs(ask(1, best, carved[0][s], carved[4][s], around[1]) - told);
            if (here < there || here == there && t < best) {
                best = t;
            }
        }
        return best;
    }

    public int hours(int s, int what) {
        if (out(s, 0, 8)) {
            return -5;
        }
        if (out(what, 0, 1)) {
            return -7;
        }
        for (int h = 0; h <= 24; h++) {
            Boat b = new Boat();
            for (int i = 0; i < h; i++) {
                b.fire(s);
            }
            if (b.thick[s] <= (what == 0 ? carved[5][s] : 0)) {
                return h;
            }
        }
        return -1;
    }

    public long left(int s, int h, int part) {
        if (out(s, 0, 8) || out(h, 0, 24) || out(part, 0, 1)) {
            return NO;
        }
        int enough = 0;
        for (int wind = 0; wind < 10; wind++) {
            Boat b = new Boat();
            b.wind = wind;
            for (int i = 0; i < h; i++) {
                b.fire(s);
            }
            enough += b.thick[s] >= carved[5][s] ? 1 : 0;
        }
        return new Ratio(enough, 10).part(part);
    }

    public int judge(int n, int s) {
        if (no(n)) {
            return -5;
        }
        if (noSheet(s) != 0) {
            return noSheet(s);
        }
        if (size(s) != 9) {
            return -2;
        }
        Boat b = new Boat(n, -1);
        for (int i = 0; i < 9; i++) {
            if (b.thick[i] < at(s, i)) {
                return i;
            }
        }
        return -1;
    }

    public int floats(int n, int load, int what) {
        if (no(n)) {
            return -5;
        }
        if (out(load, 0, 9999) || out(what, 0, 2)) {
            return -7;
        }
        Boat b = new Boat(n, -1);
        int d = b.draught(load);
        if (d < 0) {
            return -1;
        }
        return what == 0 ? d : what == 1 ? b.leastHigh() - d : b.sum(s -> b.wide[s] * b.wide[s]) / (d + 1);
    }

    public int bears(int n, int above) {
        if (no(n)) {
            return -5;
        }
        if (out(above, 0, 99)) {
            return -7;
        }
        Boat b = new Boat(n, -1);
        int spare = b.sum(s -> b.wide[s]) * (b.leastHigh() - above) - b.weight();
        return b.bits() != 0 ? -1 : Math.max(-1, spare);
    }

    public int bar(int n, int load, int wave) {
        if (no(n)) {
            return -5;
        }
        if (out(load, 0, 9999) || out(wave, 0, 999)) {
            return -7;
        }
        Boat b = new Boat(n, -1);
        int d = b.draught(load);
        return d >= 0 && b.high[0] - d >= wave && b.high[8] - d >= wave ? 1 : 0;
    }

    public int tree(int g, int l, int k, int s) {
        if (out(g, 1, 99) || out(l, -9, 9) || out(k, 0, 9)) {
            return -2;
        }
        if (noSheet(s) != 0) {
            return noSheet(s);
        }
        if (size(s) != 5) {
            return -2;
        }
        Trunk t = new Trunk();
        t.girth = g;
        t.lean = l;
        t.knots = k;
        t.rings = new int[5];
        for (int i = 0; i < 5; i++) {
            t.rings[i] = at(s, i);
            if (out(t.rings[i], 0, 99)) {
                return -2;
            }
        }
        if (Arrays.stream(t.rings).sum() == 0) {
            return -2;
        }
        if (trees.size() == 6) {
            return -4;
        }
        trees.add(t);
        return trees.size() - 1;
    }

    public int bore(int t, int r) {
        if (out(t, 0, trees.size() - 1)) {
            return -5;
        }
        if (out(r, -1, 4)) {
            return -7;
        }
        int was = trees.get(t).bored;
        trees.get(t).bored = r;
        return was;
    }

    private static Ratio good(Trunk t, int ring) {
        return new Ratio(Math.max(0, t.girth - 6 * ring - 3 * t.knots), 1);
    }

    private static Ratio mean(Trunk t) {
        return t.bored >= 0 ? good(t, t.bored) : meanOf(t, Ratio.ZERO);
    }

    /** The mean of the greater of GOOD and what is given, over the RINGS. */
    private static Ratio meanOf(Trunk t, Ratio least) {
        Ratio all = Ratio.ZERO;
        for (int r = 0; r < 5; r++) {
            all = all.plus(good(t, r).max(least).times(t.rings[r]));
        }
        return all.by(Arrays.stream(t.rings).sum());
    }

    private Ratio hole(Trunk t) {
        if (t.bored >= 0) {
            return Ratio.ZERO;
        }
        Ratio other = Ratio.ZERO;
        for (Trunk o : trees) {
            other = o == t ? other : other.max(mean(o));
        }
        return meanOf(t, other).plus(mean(t).max(other).times(-1));
    }

    public long worth(int t, int part) {
        return out(t, 0, trees.size() - 1) ? NO : mean(trees.get(t)).part(part);
    }

    public int which() {
        int best = -1;
        for (int t = trees.size() - 1; t >= 0; t--) {
            if (best < 0 || mean(trees.get(t)).compareTo(mean(trees.get(best))) >= 0) {
                best = t;
            }
        }
        return best;
    }

    public long boring(int t, int part) {
        return out(t, 0, trees.size() - 1) ? NO : hole(trees.get(t)).part(part);
    }

    public int hole() {
        int best = -1;
        Ratio most = Ratio.ZERO;
        for (Trunk t : trees) {
            if (hole(t).compareTo(most) > 0) {
                most = hole(t);
                best = trees.indexOf(t);
            }
        }
        return best;
    }

    public int fell(int t, int boughs, int what) {
        if (out(t, 0, trees.size() - 1)) {
            return -5;
        }
        if (out(boughs, 0, 255) || out(what, 0, 1)) {
            return -7;
        }
        Trunk tree = trees.get(t);
        int best = 0;
        int least = Integer.MAX_VALUE;
        for (int side = 0; side < 8; side++) {
            int turned = tree.lean < 0 ? (side + 4) % 8 : side;
            int hurt = Math.abs(tree.lean) * new int[] {0, 1, 2, 3, 4, 3, 2, 1}[turned];
            hurt += 3 * tree.knots + tree.girth / 10;
            hurt -= boughs / (1 << side) % 2 * 12;
            hurt = Math.max(hurt, 0);
            if (hurt < least) {
                least = hurt;
                best = side;
            }
        }
        return what == 0 ? best : least;
    }

    public int forest(int s, int old, int years) {
        if (out(s, 0, 3) || out(old, 1, 999) || out(years, 0, 200)) {
            return -2;
        }
        if (sheets[s] == null) {
            return -11;
        }
        List<Integer> ages = new ArrayList<>();
        for (int i = 0; i < size(s); i++) {
            if (out(at(s, i), 0, 999)) {
                return -2;
            }
            ages.add(at(s, i));
        }
        int boats = 0;
        for (int y = 0; y < years && !ages.isEmpty(); y++) {
            int oldest = ages.stream().mapToInt(a -> a).max().getAsInt();
            if (oldest >= old) {
                boats++;
                ages.set(ages.indexOf(oldest), 0);
            }
            ages.replaceAll(a -> a + 1);
        }
        return boats;
    }

    private int dry(int n, int days) {
        Boat b = new Boat(n, -1);
        int bits = 0;
        for (int s = 0; s < 9; s++) {
            if (!b.broken[s] && b.thick[s] > 0
                && around[2] * days * (around[4] + 1) > carved[3][s] * b.thick[s] - 20 * carved[4][s]) {
                bits += 1 << s;
            }
        }
        return bits;
    }

    public int dries(int n, int days) {
        return no(n) ? -5 : out(days, 0, 99) ? -7 : dry(n, days);
    }

    public int shade(int n) {
        if (no(n)) {
            return -5;
        }
        for (int d = 1; d <= 99; d++) {
            if (dry(n, d) != 0) {
                return d - 1;
            }
        }
        return -1;
    }

    public int drawn(int n, int s, int seed, int what) {
        if (no(n)) {
            return -5;
        }
        if (out(s, 0, 8) || out(seed, 0, 99999) || out(what, 0, 1)) {
            return -7;
        }
        Boat b = new Boat(n, seed);
        return what == 0 ? b.thick[s] : b.bits();
    }

    public int image() {
        keptCarved = new int[6][];
        for (int i = 0; i < 6; i++) {
            keptCarved[i] = carved[i].clone();
        }
        keptAround = around.clone();
        keptLaw = law;
        keptBored = new ArrayList<>();
        for (Trunk t : trees) {
            keptBored.add(t.bored);
        }
        return works.size();
    }

    public int back() {
        if (keptCarved == null) {
            return -3;
        }
        for (int i = 0; i < 6; i++) {
            carved[i] = keptCarved[i].clone();
        }
        around = keptAround.clone();
        law = keptLaw;
        for (int t = 0; t < keptBored.size(); t++) {
            trees.get(t).bored = keptBored.get(t);
        }
        return works.size();
    }

    public int sheet(int s, int sort, int n) {
        if (out(s, 0, 3) || out(sort, -1, 2) || sort >= 0 && n > 40) {
            return -2;
        }
        if (sort >= 0 && n < 0) {
            return -14;
        }
        sheets[s] = sort < 0 ? null : sort == 0 ? new byte[n] : sort == 1 ? new short[n] : new int[n];
        return 1;
    }

    public int cell(int s, int i, int v) {
        if (noSheet(s) != 0) {
            return noSheet(s);
        }
        if (out(i, 0, size(s) - 1)) {
            return -12;
        }
        Object o = sheets[s];
        if (o instanceof byte[]) {
            ((byte[]) o)[i] = (byte) v;
        } else if (o instanceof short[]) {
            ((short[]) o)[i] = (short) v;
        } else {
            ((int[]) o)[i] = v;
        }
        return 1;
    }

    public int copy(int s, int i, int other, int j, int n) {
        if (out(s, 0, 3) || out(other, 0, 3)) {
            return -2;
        }
        if (sheets[s] == null || sheets[other] == null) {
            return -11;
        }
        if (sort(sheets[s]) != sort(sheets[other])) {
            return -13;
        }
        if (n < 0 || i < 0 || j < 0 || (long) i + n > size(s) || (long) j + n > size(other)) {
            return -12;
        }
        int[] row = new int[n];
        for (int k = 0; k < n; k++) {
            row[k] = at(s, i + k);
        }
        for (int k = 0; k < n; k++) {
            cell(other, j + k, row[k]);
        }
        return n;
    }

    public int worksBy(int s, int sort, int at, int n) {
        if (out(s, 0, 3) || out(sort, 0, 2) || out(n, 0, 10)) {
            return -2;
        }
        if (sheets[s] == null) {
            return -11;
        }
        if (sort(sheets[s]) != sort) {
            return -13;
        }
        int ahead = works.size();
        for (int i = 0; i < n; i++) {
            long from = at + 3L * i;
            if (from < 0 || from + 2 >= size(s)) {
                return -12;
            }
            int f = (int) from;
            work(at(s, f), at(s, f + 1), at(s, f + 2));
        }
        return works.size() - ahead;
    }

    public int taken(int i, int kind) {
        if (out(kind, 0, 6)) {
            return -2;
        }
        if (out(i, 0, 15)) {
            return -12;
        }
        if (i < 6) {
            return i >= trees.size() ? -11 : kind == 6 ? trees.get(i).girth : -13;
        }
        int w = i - 6;
        if (w >= works.size()) {
            return -11;
        }
        boolean[][] is = {
            {true, false, false, false, false, false},
            {true, true, false, false, false, false},
            {true, true, true, false, false, false},
            {true, false, false, true, false, false},
            {true, false, false, false, true, false},
            {true, false, false, false, true, true}
        };
        return kind < 6 && is[works.get(w)[0]][kind] ? w : -13;
    }
}
