import java.lang.reflect.InvocationTargetException;
import java.lang.reflect.Method;
import java.util.ArrayList;
import java.util.HashMap;
import java.util.List;
import java.util.Map;
import java.util.Random;

/** Runs of 512 calls, drawn by fixed seeds, on HollowedByFire and on Slow: they answer alike. */
public final class OracleTest {
    private static final int RUNS = 1500, CALLS = 512;

    // each call with how often it comes and the least and the greatest of each argument
    private static final String[] CALLS_TOLD = {
        "carve 30 0 8 0 5 0 99", "carved 3 0 8 0 5", "set 10 0 4 0 9", "count 3 0 9",
        "force 6 0 5", "asks 6 0 2 0 20 0 198 0 1",
        "work 14 0 5 0 9 0 9", "forget 8", "workTold 3 0 9 0 3", "hull 9 0 10 0 8 0 3",
        "state 6 0 10 0 2", "days 4 0 10 0 1", "fewest 4 0 10 0 60",
        "crack 5 0 10 0 12", "far 5 0 10", "odds 8 0 10 0 12 0 5 0 1", "stop 8 0 10 0 999 0 9999 0 5",
        "wished 3 0 3 0 12 0 8", "old 3 0 3", "copyOf 2 0 3 0 12",
        "even 4 0 8 0 250", "hours 4 0 8 0 1", "left 4 0 8 0 24 0 1", "judge 3 0 10 0 3",
        "floats 8 0 10 0 9999 0 2", "bears 4 0 10 0 99", "bar 5 0 10 0 3000 0 30",
        "tree 5 1 99 -9 9 0 9 0 3", "bore 4 0 5 -1 4", "worth 4 0 5 0 1", "which 2", "boring 5 0 5 0 1",
        "hole 2", "fell 4 0 5 0 255 0 1", "forest 3 0 3 1 300 0 200",
        "dries 5 0 10 0 99", "shade 4 0 10", "drawn 6 0 10 0 8 0 99999 0 1", "image 2", "back 2",
        "sheet 5 0 3 -1 2 0 40", "cell 6 0 3 0 12 -5 240", "copy 4 0 3 0 9 0 3 0 9 0 9",
        "worksBy 3 0 3 0 2 0 9 0 3", "taken 5 0 15 0 6"
    };

    private final Random random;
    private final Map<String, Method> fast = methods(HollowedByFire.class);
    private final Map<String, Method> slow = methods(Slow.class);
    private final List<String[]> bag = new ArrayList<>();
    private final StringBuilder told = new StringBuilder();
    private HollowedByFire x;
    private Slow y;
    private int calls;
    private boolean alike = true;

    private OracleTest(long seed) {
        random = new Random(seed);
        for (String call : CALLS_TOLD) {
            String[] parts = call.split(" ");
            for (int i = 0; i < Integer.parseInt(parts[1]); i++) {
                bag.add(parts);
            }
        }
    }

    private static Map<String, Method> methods(Class<?> of) {
        Map<String, Method> all = new HashMap<>();
        for (Method m : of.getDeclaredMethods()) {
            if (java.lang.reflect.Modifier.isPublic(m.getModifiers())) {
                all.put(m.getName(), m);
            }
        }
        return all;
    }

    private int between(int least, int most) {
        int way = random.nextInt(60);
        if (way == 0) {
            return least - 1;
        } else if (way == 1) {
            return most + 1;
        } else if (way == 2) {
            return new int[] {Integer.MIN_VALUE, Integer.MAX_VALUE, random.nextInt(), -1}[random.nextInt(4)];
        } else if (way < 8) {
            return least;
        } else if (way < 14) {
            return most;
        }
        return least + random.nextInt(most - least + 1);
    }

    private void call(String name, Object... args) {
        if (!alike || calls == CALLS) {
            return;
        }
        calls++;
        try {
            long a = ((Number) fast.get(name).invoke(x, args)).longValue();
            long b = ((Number) slow.get(name).invoke(y, args)).longValue();
            told.append(name).append(java.util.Arrays.toString(args)).append(" -> ").append(a).append('\n');
            if (a != b) {
                alike = false;
                System.out.println(told);
                System.out.println("the last one: due is " + b);
            }
        } catch (IllegalAccessException | InvocationTargetException e) {
            alike = false;
            System.out.println(told + name + java.util.Arrays.toString(args) + " threw " + e.getCause());
        }
    }

    private String pick(String... of) {
        return of[random.nextInt(of.length)];
    }

    private String one(int deep) {
        int way = random.nextInt(deep <= 0 ? 8 : 11);
        if (way < 2) {
            return "" + random.nextInt(random.nextInt(4) == 0 ? 10000 : 12);
        } else if (way < 8) {
            return pick("heat", "wind", "sap", "thick", "knot", "wide", "thick", "wide");
        }
        return way == 8 ? "-" + one(deep - 1) : "(" + expression(deep - 1) + ")";
    }

    private String expression(int deep) {
        StringBuilder all = new StringBuilder(random.nextInt(12) == 0 ? "not " : "");
        all.append(one(deep));
        while (random.nextInt(100) < 42) {
            all.append(pick("", " ")).append(pick("+", "-", "*", "*", "<", "=", " or ", " and ", " and not "));
            all.append(pick("", " ")).append(one(deep));
        }
        return all.toString();
    }

    private String part(String key) {
        return key + pick(" ", "\n") + expression(random.nextInt(7)) + pick(";", " ; ", ";\n");
    }

    private void text() {
        String s = random.nextInt(3) == 0
            ? part("char") + part("pull") + part("stand")
            : "char 1 + (" + expression(2) + ");" + "pull thick * " + random.nextInt(4) + "+ wide+ " + one(1)
                + " ;stand " + one(1) + "*" + random.nextInt(12) + "; ";
        StringBuilder b = new StringBuilder(s);
        while (random.nextInt(4) == 0 && b.length() > 0) {
            int i = random.nextInt(b.length());
            int way = random.nextInt(4);
            if (way == 0) {
                b.deleteCharAt(i);
            } else if (way == 1) {
                b.setCharAt(i, (char) random.nextInt(256));
            } else if (way == 2) {
                b.setLength(i);
            } else {
                b.insert(i, pick("(", ")", "not ", "-", " ", "123", "<", "and ", "x", ";", "*"));
            }
        }
        for (int from = 0; from < b.length();) {
            int n = Math.min(b.length() - from, 4 + random.nextInt(5));
            long w = random.nextInt(2);
            for (int i = from; i < from + n; i++) {
                w = w << 8 | b.charAt(i);
            }
            call("feed", w, n);
            from += n;
        }
        call("text");
        if (random.nextInt(2) == 0) {
            call("force", random.nextInt(7));
        }
    }

    private void fillSheet() {
        int s = random.nextInt(4);
        int use = random.nextInt(5);
        int n = new int[] {9, 9, 5, 12, 30}[use];
        int most = new int[] {99, 20, 9, 9, 300}[use];
        call("sheet", s, use == 0 || use == 4 ? 1 + random.nextInt(2) : random.nextInt(3), n);
        int base = random.nextInt(most);
        for (int i = 0; i < n; i++) {
            int v = use == 0 ? 1 + base + (4 - Math.abs(i - 4)) * random.nextInt(13) : random.nextInt(most + 1);
            call("cell", s, i, use == 3 ? random.nextInt(7) : v);
        }
        if (use == 2) {
            call("tree", 1 + random.nextInt(99), random.nextInt(19) - 9, random.nextInt(6), s);
        }
    }

    private void carveSome() {
        int what = random.nextInt(6);
        int[] most = {60, 20, 30, 99, 1, 8};
        boolean all = random.nextInt(3) == 0;
        int v = random.nextInt(most[what] + 1);
        for (int s = 0; s < 9; s++) {
            call("carve", s, what, all ? v : random.nextInt(most[what] + 1));
        }
    }

    private void runOnce() {
        x = new HollowedByFire();
        y = new Slow();
        calls = 0;
        told.setLength(0);
        while (calls < CALLS && alike) {
            int way = random.nextInt(40);
            if (way == 0) {
                text();
            } else if (way == 1) {
                fillSheet();
            } else if (way == 2) {
                carveSome();
            } else {
                drawnCall();
            }
        }
    }

    private void drawnCall() {
        String[] c = bag.get(random.nextInt(bag.size()));
        Object[] args = new Object[(c.length - 2) / 2];
        for (int i = 0; i < args.length; i++) {
            args[i] = between(Integer.parseInt(c[2 + 2 * i]), Integer.parseInt(c[3 + 2 * i]));
        }
        call(c[0], args);
    }

    public static void main(String[] argv) {
        int runs = argv.length > 0 ? Integer.parseInt(argv[0]) : RUNS;
        long seed = argv.length > 1 ? Long.parseLong(argv[1]) : 1;
        Check check = new Check("OracleTest");
        OracleTest test = new OracleTest(seed);
        for (int run = 0; run < runs && test.alike; run++) {
            test.runOnce();
            check.isTrue("run " + run, test.alike);
        }
        check.end();
    }
}
