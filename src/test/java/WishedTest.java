/** Promises 21 to 23: the hull to carve for a wished boat, an old one, a copy of it. */
public final class WishedTest {
    private static final int[] BOAT = {20, 24, 28, 32, 36, 32, 28, 24, 20};

    private final Check check = new Check("WishedTest");

    /** Which call's refusals for a SHEET are looked at: 0 wished, 1 old, 2 copyOf. */
    private static int ask(HollowedByFire x, int call, int s) {
        return call == 0 ? x.wished(s, 1, 4) : call == 1 ? x.old(s) : x.copyOf(s, 1);
    }

    private void sheets() {
        for (int call = 0; call < 3; call++) {
            HollowedByFire x = new HollowedByFire();
            for (int s : new int[] {-1, 4, Hands.MIN, Hands.MAX}) {
                check.due("no such SHEET", ask(x, call, s), -2);
            }
            check.due("a missing SHEET", ask(x, call, 3), -11);
            Hands.sheet(x, 0, 9, 9, 9, 9, 9, 9, 9, 9);
            check.due("8 numbers", ask(x, call, 0), -2);
            Hands.sheet(x, 0, 9, 9, 9, 9, 9, 9, 9, 9, 9, 9);
            check.due("10 numbers", ask(x, call, 0), -2);
            Hands.sheet(x, 0);
            check.due("no numbers", ask(x, call, 0), -2);
            for (int wrong : new int[] {0, 199, -1, Hands.MIN, Hands.MAX}) {
                for (int at : new int[] {0, 4, 8}) {
                    Hands.sheet(x, 0, BOAT);
                    x.cell(0, at, wrong);
                    check.due("a wrong number", ask(x, call, 0), -2);
                }
            }
        }
    }

    private void promise21() {
        HollowedByFire x = new HollowedByFire();
        Hands.sheet(x, 2, 1, 50, 99, 100, 198, 103, 13, 3, 99);
        int[][] due = {{0, 0, 1}, {12, 0, 1}, {12, 8, 99}, {0, 3, -1}, {1, 3, 97}, {12, 3, 64}, {0, 4, -1}, {12, 4, -1},
            {1, 5, -1}, {2, 5, 97}, {6, 6, 1}, {7, 6, -1}, {2, 7, 1}, {3, 7, -1}, {1, 2, 97}, {12, 1, 38}};
        for (int[] d : due) {
            check.due("wished(2, " + d[0] + ", " + d[1] + ")", x.wished(2, d[0], d[1]), d[2]);
        }
        for (int s : new int[] {-1, 9, Hands.MIN, Hands.MAX}) {
            check.due("no such SECTION, ahead of all", x.wished(9, 13, s), -5);
            check.due("no such SECTION", x.wished(2, 1, s), -5);
        }
        for (int inches : new int[] {-1, 13, Hands.MIN, Hands.MAX}) {
            check.due("inches ahead of the SHEET", x.wished(9, inches, 0), -7);
            check.due("inches", x.wished(2, inches, 0), -7);
        }
        check.due("a wrong number elsewhere, ahead of -1", wrongElsewhere(x), -2);
        check.due("what is asked changes nothing", x.carved(3, 0), 20);
    }

    private static int wrongElsewhere(HollowedByFire x) {
        Hands.sheet(x, 2, 1, 1, 1, 1, 1, 1, 1, 1, 0);
        return x.wished(2, 1, 4);
    }

    private void old(String what, int want, int... widths) {
        HollowedByFire x = new HollowedByFire();
        Hands.sheet(x, 1, widths);
        check.due(what, x.old(1), want);
    }

    private void promise22() {
        old("SPREAD by 4", 4, BOAT);
        old("as straight as it is", 0, 1, 1, 1, 1, 1, 1, 1, 1, 1);
        old("it would be nothing", 0, 1, 1, 1, 1, 4, 1, 1, 1, 1);
        old("12 inches", 12, 50, 62, 74, 86, 98, 86, 74, 62, 50);
        old("by 13 it can't be", 12, 20, 33, 46, 59, 72, 59, 46, 33, 20);
        old("too WIDE for all", -1, 198, 198, 198, 198, 198, 198, 198, 198, 198);
        old("an end is too WIDE", -1, 100, 99, 99, 99, 99, 99, 99, 99, 99);
        old("only by many it can be", 12, 99, 99, 99, 99, 147, 99, 99, 99, 99);
        // all that can be are: 3 or more by the MIDDLE, and then 0 would be better still
        old("the best that can be", 3, 99, 99, 99, 99, 111, 99, 99, 99, 99);
        old("one SECTION aside", 0, 10, 11, 10, 10, 10, 10, 10, 9, 10);
        // by 0, 1, 2 UNEVEN is 8; by 1, 2, 3 it is 8
        old("of like ones the least", 0, 10, 10, 10, 12, 14, 12, 10, 10, 10);
        old("of like ones not the first of all", 1, 10, 11, 12, 15, 18, 15, 12, 11, 10);
        each();
        old("the other way, too", 2, 30, 32, 34, 36, 38, 36, 34, 32, 30);
    }

    /** Each difference counts: one of 3 towards the MIDDLE, three of 1 and four of 7, so 3 .. 7 are alike. */
    private void each() {
        for (int at = 0; at < 8; at++) {
            int[] widths = new int[9];
            widths[0] = 50;
            int ones = 3;
            for (int i = 0; i < 8; i++) {
                int steps = i == at ? 3 : ones > 0 ? 1 : 7;
                ones -= steps == 1 ? 1 : 0;
                widths[i + 1] = widths[i] + (i < 4 ? steps : -steps);
            }
            old("3 at " + at, 3, widths);
        }
    }

    private void promise23() {
        HollowedByFire x = new HollowedByFire();
        Hands.sheet(x, 0, BOAT);
        check.due("by 4 it is all 20", x.copyOf(0, 4), 0);
        check.due("by 3", x.copyOf(0, 3), 7);
        int[] wide = {20, 21, 22, 23, 24, 23, 22, 21, 20};
        for (int s = 0; s < 9; s++) {
            check.due("carved by 3", x.carved(s, 0), wide[s]);
        }
        check.due("by 3 again", x.copyOf(0, 3), 0);
        x.carve(0, 0, 99);
        check.due("one was otherwise", x.copyOf(0, 3), 1);
        for (int inches : new int[] {-1, 13, Hands.MIN, Hands.MAX}) {
            check.due("inches", x.copyOf(0, inches), -3);
            check.due("the SHEET ahead of inches", x.copyOf(4, inches), -2);
            check.due("a missing SHEET ahead of inches", x.copyOf(3, inches), -11);
        }
        Hands.sheet(x, 0, 99, 99, 99, 99, 101, 99, 99, 99, 99);
        check.due("too WIDE", x.copyOf(0, 0), -3);
        for (int s = 0; s < 9; s++) {
            check.due("refused, all stay", x.carved(s, 0), wide[s]);
        }
        check.due("just not too WIDE", x.copyOf(0, 1), 9);
        check.due("the MIDDLE", x.carved(4, 0), 97);
        Hands.sheet(x, 0, 1, 1, 1, 1, 4, 1, 1, 1, 1);
        check.due("too little is left", x.copyOf(0, 1), -3);
        Hands.sheet(x, 0, 20, 20, 20, 20, 4, 20, 20, 20, 20);
        check.due("nothing is left of the MIDDLE", x.copyOf(0, 1), -3);
        Hands.sheet(x, 0, 1, 1, 1, 1, 4, 1, 1, 1, 1);
        check.due("by nothing", x.copyOf(0, 0), 9);
        check.due("the least", x.carved(8, 0), 1);
        x.sheet(0, 0, 9);
        for (int s = 0; s < 9; s++) {
            x.cell(0, s, 99);
        }
        check.due("of bytes, too", x.copyOf(0, 0), 9);
        x.cell(0, 4, 198);
        check.due("198 is no byte", x.copyOf(0, 0), -2);
    }

    public static void main(String[] args) {
        WishedTest test = new WishedTest();
        test.sheets();
        test.promise21();
        test.promise22();
        test.promise23();
        test.check.end();
    }
}
