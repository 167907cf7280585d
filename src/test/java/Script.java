import java.lang.reflect.InvocationTargetException;
import java.lang.reflect.Method;
import java.lang.reflect.Modifier;
import java.util.ArrayList;
import java.util.Arrays;
import java.util.HashMap;
import java.util.List;
import java.util.Map;
import java.util.Set;
import java.util.regex.Matcher;
import java.util.regex.Pattern;

/**
 * Runs of calls that are written out, each on a new object, a line a call:
 *
 * <pre>
 * floats(0, 24, 1) 0       the call, and the answer that the document asks for
 * carve(0, 0, 5)           any answer will do
 * all 1 20                 carve(s, 1, 20) for every SECTION
 * row 2 0: 9 8 7           SHEET 2 becomes a row of sort 0 (2 without it) with these numbers
 * tape char{10}1;          these bytes are fed; {10} is the byte 10
 * text 1 char 1;pull ..    these bytes are fed, then text() is called
 * fault char ^? 1;         likewise; there is a FAULT where the ^ stands, which isn't fed
 * // why
 * </pre>
 *
 * An answer that is a refusal, and each answer of a call that only asks, must leave all as it was:
 * that is looked at by two more objects, one with the call and one without, of which all is read that
 * can be read. What is asked in a row is asked once more the other way round, on an object of its own:
 * the answers are the same. Each run goes by Slow, too.
 */
final class Script {
    private static final Set<String> CHANGING = Set.of("carve", "set", "feed", "text", "force", "work", "forget",
        "copyOf", "tree", "bore", "image", "back", "sheet", "cell", "copy", "worksBy");
    private static final Pattern CALL = Pattern.compile("(\\w+)\\(([^)]*)\\)\\s*(\\S*)");
    private static final int CALLS_MOST = 512;

    private static final Map<String, Method> FAST = methods(HollowedByFire.class);
    private static final Map<String, Method> SLOW = methods(Slow.class);

    private final Check check;

    Script(Check check) {
        this.check = check;
    }

    private static Map<String, Method> methods(Class<?> of) {
        Map<String, Method> all = new HashMap<>();
        for (Method m : of.getDeclaredMethods()) {
            if (Modifier.isPublic(m.getModifiers())) {
                all.put(m.getName(), m);
            }
        }
        return all;
    }

    /** A call with the answer that is due, if one is told. */
    private static final class Call {
        final String name;
        final long[] numbers;
        final Long due;

        Call(String name, Long due, long... numbers) {
            this.name = name;
            this.due = due;
            this.numbers = numbers;
        }

        long on(Object x) {
            Method m = (x instanceof HollowedByFire ? FAST : SLOW).get(name);
            if (m == null || m.getParameterCount() != numbers.length) {
                throw new IllegalStateException("no such call: " + this);
            }
            Object[] args = new Object[numbers.length];
            for (int i = 0; i < args.length; i++) {
                args[i] = m.getParameterTypes()[i] == long.class ? (Object) numbers[i]
                    : (Object) Math.toIntExact(numbers[i]);
            }
            try {
                return ((Number) m.invoke(x, args)).longValue();
            } catch (InvocationTargetException | IllegalAccessException e) {
                throw new IllegalStateException(this + " threw", e);
            }
        }

        /** By its name, and for a call that may change something by its answer. */
        boolean leavesAll(long answer) {
            if (!CHANGING.contains(name)) {
                return true;
            }
            switch (name) {
                case "set":
                    return answer < 0;
                case "bore":
                    return answer < -1;
                case "text":
                    return answer == HollowedByFire.FULL;
                case "worksBy":
                    return answer < 0 && answer != -12;
                default:
                    return answer < 0;
            }
        }

        @Override
        public String toString() {
            return name + Arrays.toString(numbers).replace('[', '(').replace(']', ')');
        }
    }

    // ---- reading a run

    private static long number(String s) {
        switch (s) {
            case "MIN":
                return Integer.MIN_VALUE;
            case "MAX":
                return Integer.MAX_VALUE;
            case "NO":
                return HollowedByFire.NO;
            default:
                return Long.decode(s);
        }
    }

    /** Where a ^ stands in it among the bytes that are fed; -1: none does. */
    private static int feedInto(List<Call> calls, String told) {
        List<Integer> bytes = new ArrayList<>();
        int marked = -1;
        for (int i = 0; i < told.length(); i++) {
            if (told.charAt(i) == '{') {
                int end = told.indexOf('}', i);
                bytes.add(Integer.parseInt(told.substring(i + 1, end)));
                i = end;
            } else if (told.charAt(i) == '^') {
                marked = bytes.size();
            } else {
                bytes.add((int) told.charAt(i));
            }
        }
        for (int from = 0; from < bytes.size(); from += 8) {
            int to = Math.min(bytes.size(), from + 8);
            long w = 0;
            for (int i = from; i < to; i++) {
                w = w << 8 | bytes.get(i);
            }
            calls.add(new Call("feed", null, w, to - from));
        }
        return marked;
    }

    private static void rowInto(List<Call> calls, String line) {
        String[] head = line.substring(0, line.indexOf(':')).trim().split(" +");
        String rest = line.substring(line.indexOf(':') + 1).trim();
        String[] numbers = rest.isEmpty() ? new String[0] : rest.split(" +");
        long s = number(head[1]);
        calls.add(new Call("sheet", 1L, s, head.length > 2 ? number(head[2]) : 2, numbers.length));
        for (int i = 0; i < numbers.length; i++) {
            calls.add(new Call("cell", 1L, s, i, number(numbers[i])));
        }
    }

    private static void lineInto(List<Call> calls, String line) {
        if (line.startsWith("row ")) {
            rowInto(calls, line);
        } else if (line.startsWith("all ")) {
            String[] parts = line.split(" +");
            for (int s = 0; s < 9; s++) {
                calls.add(new Call("carve", null, s, number(parts[1]), number(parts[2])));
            }
        } else if (line.startsWith("tape ")) {
            feedInto(calls, line.substring(5));
        } else if (line.startsWith("fault ")) {
            int place = feedInto(calls, line.substring(6));
            calls.add(new Call("text", -100L - place));
        } else if (line.startsWith("text ")) {
            String[] parts = line.split(" ", 3);
            feedInto(calls, parts.length > 2 ? parts[2] : "");
            calls.add(new Call("text", number(parts[1])));
        } else {
            Matcher m = CALL.matcher(line);
            if (!m.matches()) {
                throw new IllegalStateException("no call: " + line);
            }
            String[] args = m.group(2).isBlank() ? new String[0] : m.group(2).split(",");
            long[] numbers = new long[args.length];
            for (int i = 0; i < args.length; i++) {
                numbers[i] = number(args[i].trim());
            }
            calls.add(new Call(m.group(1), m.group(3).isEmpty() ? null : (Long) number(m.group(3)), numbers));
        }
    }

    private static List<Call> read(String lines) {
        List<Call> calls = new ArrayList<>();
        for (String line : lines.split("\n")) {
            String bare = line.strip();
            if (!bare.isEmpty() && !bare.startsWith("//")) {
                lineInto(calls, bare);
            }
        }
        if (calls.size() > CALLS_MOST) {
            throw new IllegalStateException("a run of more than 512 calls");
        }
        return calls;
    }

    // ---- running it

    void run(String title, String lines) {
        List<Call> calls = read(lines);
        otherWayRound(title, calls, inOrder(title, calls));
    }

    private List<Long> inOrder(String title, List<Call> calls) {
        HollowedByFire x = new HollowedByFire();
        Slow y = new Slow();
        List<Long> answers = new ArrayList<>();
        List<Call> changing = new ArrayList<>();
        String ahead = null;
        for (Call call : calls) {
            long answer = call.on(x);
            answers.add(answer);
            if (call.due != null) {
                check.due(title + ": " + call, answer, call.due);
            }
            check.due(title + ": by Slow " + call, call.on(y), answer);
            if (!call.leavesAll(answer)) {
                changing.add(call);
                ahead = null;
                continue;
            }
            ahead = ahead == null ? imprint(changing, null) : ahead;
            check.isTrue(title + ": " + call + " leaves all as it was", imprint(changing, call).equals(ahead));
        }
        return answers;
    }

    private void otherWayRound(String title, List<Call> calls, List<Long> answers) {
        HollowedByFire x = new HollowedByFire();
        int made = 0;
        int from = 0;
        for (int i = 0; i < calls.size(); i++) {
            calls.get(i).on(x);
            made++;
            boolean isChanged = !calls.get(i).leavesAll(answers.get(i));
            from = isChanged ? i + 1 : from;
            boolean isLast = i + 1 == calls.size() || !calls.get(i + 1).leavesAll(answers.get(i + 1));
            for (int k = i; isLast && k >= from && made < CALLS_MOST; k--) {
                made++;
                check.due(title + ": once more " + calls.get(k), calls.get(k).on(x), answers.get(k));
            }
        }
    }

    // ---- all that can be read of an object

    /** Of new objects on which these calls were made. */
    private static String imprint(List<Call> calls, Call last) {
        StringBuilder all = new StringBuilder();
        readMost(made(calls, last), all);
        for (int s = 0; s < 4; s++) {
            readSheet(made(calls, last), s, all);
        }
        return all.toString();
    }

    private static HollowedByFire made(List<Call> calls, Call last) {
        HollowedByFire x = new HollowedByFire();
        for (Call call : calls) {
            call.on(x);
        }
        if (last != null) {
            last.on(x);
        }
        return x;
    }

    private static void readCarved(HollowedByFire x, StringBuilder all) {
        for (int s = 0; s < 9; s++) {
            for (int what = 0; what < 6; what++) {
                all.append(x.carved(s, what)).append(' ');
            }
        }
        for (int what = 0; what < 9; what++) {
            all.append(x.count(what)).append(' ');
        }
    }

    private static void readMost(HollowedByFire x, StringBuilder all) {
        readCarved(x, all);
        for (int w = 0; w < x.count(5); w++) {
            for (int what = 0; what < 3; what++) {
                all.append(x.workTold(w, what)).append(' ');
            }
        }
        int trees = x.count(6);
        for (int t = 0; t < trees; t++) {
            all.append(x.taken(t, 6)).append(' ').append(x.fell(t, 0, 0)).append(' ').append(x.fell(t, 0, 1)).append(' ')
                .append(x.bore(t, -1)).append(' ').append(x.worth(t, 0)).append(' ').append(x.worth(t, 1)).append(' ');
        }
        int tape = x.count(9);
        int text = x.text();
        all.append("tape ").append(tape).append(' ').append(text).append(' ');
        for (int t = 0; t < x.count(7); t++) {
            x.force(t);
            for (int part = 0; part < 3; part++) {
                all.append(x.asks(part, 7, 50, 1)).append(' ');
            }
        }
        all.append("image ").append(x.back()).append(' ');
        readCarved(x, all);
        for (int t = 0; t < trees; t++) {
            all.append(x.bore(t, -1)).append(' ');
        }
    }

    /** The sort, the size and the numbers of a SHEET, by another one that is used up for it. */
    private static void readSheet(HollowedByFire x, int s, StringBuilder all) {
        int sort = 0;
        while (sort < 3 && x.worksBy(s, sort, 0, 0) < 0) {
            sort++;
        }
        int size = 40;
        while (size >= 0 && x.copy(s, 0, s, 0, size) < 0) {
            size--;
        }
        all.append("sheet ").append(sort).append(' ').append(size).append(' ');
        int other = (s + 1) % 4;
        x.sheet(other, sort, 9);
        for (int i = 1; i < 9; i++) {
            x.cell(other, i, 1);
        }
        for (int i = 0; i < size; i++) {
            x.copy(s, i, other, 0, 1);
            // 1 .. 99 is told as it is, else whether it is 100 .. 198, 199 .. 999 or 0, or none of these
            int number = x.wished(other, 0, 0);
            all.append(number);
            if (number < 0) {
                all.append(' ').append(x.forest(other, 2, 1));
            }
            all.append(' ');
        }
    }
}
