import java.util.ArrayList;
import java.util.List;

/**
 * Each number that a promise bounds, one below its least and one above its greatest, alone and with
 * others that are wrong, too: the refusal that is told first answers, and nothing has changed.
 */
public final class RefusalsTest {
    // of each argument the least, the greatest, the refusal and its rank among the call's refusals; or * and a number;
    // N is how many WORKINGS there are, W T X the last WORKING, TREE, TEXT
    private static final String[] CALLS = {
        "carve 0 8 -5 1  0 5 -7 2  0 99 -7 3", "carved 0 8 -5 1  0 5 -7 2", "set 0 4 -1 1  0 9 -2 2", "count 0 9 -2 1",
        "feed * 65  1 8 -2 1", "force 0 X -2 1", "asks 0 2 -2 1  0 20 -2 2  0 198 -2 3  0 1 -2 4",
        "work 0 5 -2 1  0 9 -2 2  0 9 -2 3", "workTold 0 W -5 1  0 3 -7 2", "hull 0 N -5 1  0 8 -7 2  0 3 -7 3",
        "state 0 N -5 1  0 2 -7 2", "days 0 N -5 1  0 1 -7 2", "fewest 0 N -5 1  0 999 -7 2",
        "crack 0 N -5 1  0 12 -7 2", "far 0 N -5 1", "odds 0 N NO 1  0 12 NO 2  0 5 NO 3  0 1 NO 4",
        "stop 0 N -5 1  0 999 -7 2  0 9999 -7 3  0 5 -7 4", "wished 0 3 -2 3  0 12 -7 2  0 8 -5 1", "old 0 3 -2 1",
        "copyOf 0 3 -2 1  0 12 -3 2", "even 0 8 -5 1  0 999 -7 2", "hours 0 8 -5 1  0 1 -7 2",
        "left 0 8 NO 1  0 24 NO 2  0 1 NO 3", "judge 0 N -5 1  0 3 -2 2", "floats 0 N -5 1  0 9999 -7 2  0 2 -7 3",
        "bears 0 N -5 1  0 99 -7 2", "bar 0 N -5 1  0 9999 -7 2  0 999 -7 3",
        "tree 1 99 -2 1  -9 9 -2 2  0 9 -2 3  0 3 -2 4", "bore 0 T -5 1  -1 4 -7 2", "worth 0 T NO 1  0 1 NO 2",
        "boring 0 T NO 1  0 1 NO 2", "fell 0 T -5 1  0 255 -7 2  0 1 -7 3", "forest 0 3 -2 1  1 999 -2 2  0 200 -2 3",
        "dries 0 N -5 1  0 99 -7 2", "shade 0 N -5 1", "drawn 0 N -5 1  0 8 -7 2  0 99999 -7 3  0 1 -7 4",
        "sheet 0 3 -2 1  -1 2 -2 2  * -1", "sheet 0 3 -2 1  -1 2 -2 2  * 41", "cell 0 3 -2 1  0 8 -12 2  * 5",
        "copy 0 3 -2 1  * -1  0 3 -2 2  * 41  * -1", "worksBy 0 3 -2 1  0 2 -2 2  * -1  0 10 -2 3",
        "taken 0 15 -12 2  0 6 -2 1"
    };

    // SHEETS 0 and 3 tell nine widths; there is an IMAGE, and THE TAPE has a TEXT
    private static final String SOME = """
        row 2 1: 1 2 3 4 5
        tree(60, -4, 1, 2) 0
        tree(70, 5, 0, 2) 1
        bore(1, 3) -1
        text 1 char 2; pull wide; stand 40 - thick;
        force(1) 0
        image() 0
        carve(3, 1, 7) 8
        set(1, 6) 0
        bore(0, 2) -1
        force(0) 1
        work(1, 9, 2) 0
        work(3, 0, 3) 1
        work(5, 4, 1) 2
        row 0: 20 24 28 32 36 32 28 24 20
        row 1 0: 9 8 7 6 5 4 3 2 1
        row 3: 99 98 97 96 95 96 97 98 99
        tape char 3; pull 4; stand 5;
        """;

    private static final String FULL = """
        row 2 1: 1 2 3 4 5
        row 0: 20 24 28 32 36 32 28 24 20
        row 1 0: 9 8 7 6 5 4 3 2 1
        row 3: 99 98 97 96 95 96 97 98 99
        tree(60, -4, 1, 2) 0
        tree(70, 5, 0, 2) 1
        tree(71, 5, 0, 2) 2
        tree(72, 5, 0, 2) 3
        tree(73, 5, 0, 2) 4
        tree(74, 5, 0, 2) 5
        bore(1, 3) -1
        text 1 char 2; pull wide; stand 1;
        text 2 char 2; pull wide; stand 2;
        text 3 char 2; pull wide; stand 3;
        text 4 char 2; pull wide; stand 4;
        text 5 char 2; pull wide; stand 5;
        force(5) 0
        image() 0
        carve(8, 0, 33) 20
        work(0, 0, 0) 0
        work(1, 1, 1) 1
        work(2, 2, 2) 2
        work(3, 3, 3) 3
        work(4, 4, 4) 4
        work(5, 5, 5) 5
        work(0, 6, 6) 6
        work(1, 7, 7) 7
        work(2, 8, 8) 8
        work(3, 9, 9) 9
        feed(65, 8) 8
        feed(65, 8) 16
        feed(65, 8) 24
        feed(65, 8) 32
        feed(65, 8) 40
        feed(65, 8) 48
        feed(65, 8) 56
        feed(65, 8) 64
        feed(65, 8) 72
        feed(65, 8) 80
        feed(65, 8) 88
        feed(65, 8) 96
        feed(65, 8) 104
        feed(65, 8) 112
        feed(65, 8) 120
        feed(65, 8) 128
        feed(65, 8) 136
        feed(65, 8) 144
        feed(65, 8) 152
        feed(65, 8) 160
        """;

    private final Check check = new Check("RefusalsTest");
    private final Script script = new Script(check);

    /** An argument of a call; free ones have no refusal. */
    private static final class Argument {
        final long least;
        final long most;
        final String refusal;
        final int rank;

        Argument(long least, long most, String refusal, int rank) {
            this.least = least;
            this.most = most;
            this.refusal = refusal;
            this.rank = rank;
        }

        boolean isBound() {
            return refusal != null;
        }

        long wrong(int way) {
            return new long[] {least - 1, most + 1, Hands.MIN, Hands.MAX}[way % 4];
        }
    }

    private static List<Argument> arguments(String[] parts, int works, int trees, int texts) {
        List<Argument> all = new ArrayList<>();
        for (int i = 1; i < parts.length;) {
            if (parts[i].equals("*")) {
                long v = Long.parseLong(parts[i + 1]);
                all.add(new Argument(v, v, null, 99));
                i += 2;
                continue;
            }
            String most = parts[i + 1].replace("N", "" + works).replace("W", "" + (works - 1))
                .replace("T", "" + (trees - 1)).replace("X", "" + (texts - 1));
            all.add(new Argument(Long.parseLong(parts[i]), Long.parseLong(most), parts[i + 2], Integer.parseInt(parts[i + 3])));
            i += 4;
        }
        return all;
    }

    /** The call with those wrong whose bits are set, and the refusal of the first told of these. */
    private static String line(String name, List<Argument> args, int wrong, int way, boolean isLeast) {
        StringBuilder call = new StringBuilder(name + "(");
        Argument first = null;
        for (int i = 0; i < args.size(); i++) {
            Argument a = args.get(i);
            boolean isWrong = (wrong >> i & 1) != 0;
            if (isWrong && (first == null || a.rank < first.rank)) {
                first = a;
            }
            // wrong ones beside one another are wrong in unlike ways
            long v = isWrong ? a.wrong(way + i * (way / 4 + 1)) : isLeast ? a.least : a.most;
            call.append(i == 0 ? "" : ", ").append(v);
        }
        return call.append(") ").append(first == null ? "" : first.refusal).append('\n').toString();
    }

    private static boolean isBound(List<Argument> args, int wrong) {
        for (int i = 0; i < args.size(); i++) {
            if ((wrong >> i & 1) != 0 && !args.get(i).isBound()) {
                return false;
            }
        }
        return true;
    }

    private void refusals(String title, String state, int works, int trees, int texts) {
        for (String told : CALLS) {
            String[] parts = told.split(" +");
            List<Argument> args = arguments(parts, works, trees, texts);
            StringBuilder lines = new StringBuilder(state);
            for (int wrong = 1; wrong < 1 << args.size(); wrong++) {
                if (!isBound(args, wrong)) {
                    continue;
                }
                int ways = Integer.bitCount(wrong) == 1 ? 4 : 8;
                for (int way = 0; way < ways; way++) {
                    lines.append(line(parts[0], args, wrong, way, way % 2 == 0));
                }
            }
            script.run(title + " " + parts[0], lines.toString());
        }
    }

    public static void main(String[] argv) {
        RefusalsTest test = new RefusalsTest();
        test.refusals("some", SOME, 3, 2, 2);
        test.refusals("full", FULL, 10, 6, 6);
        test.check.end();
    }
}
