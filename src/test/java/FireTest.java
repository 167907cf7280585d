/** Promises 24 to 27: how thick to leave it, how long to keep fire on. */
public final class FireTest {
    private static final int[] WRONG_SECTIONS = {-1, 9, Hands.MIN, Hands.MAX};

    private final Check check = new Check("FireTest");

    private void promise24() {
        // at first PULL is 20 and twice THICK
        HollowedByFire x = new HollowedByFire();
        int[][] due = {{0, 1}, {21, 1}, {22, 1}, {23, 1}, {24, 2}, {40, 10}, {41, 10}, {42, 11}, {59, 19}, {60, 20},
            {999, 20}};
        for (int[] d : due) {
            check.due("even(3, " + d[0] + ")", x.even(3, d[0]), d[1]);
        }
        x.carve(3, 1, 1);
        check.due("how THICK it is carved doesn't matter", x.even(3, 40), 10);
        x.carve(3, 4, 1);
        check.due("a KNOT does", x.even(3, 49), 10);
        x.carve(3, 0, 27);
        check.due("how WIDE does", x.even(3, 56), 10);
        check.due("another SECTION", x.even(4, 40), 10);
        HollowedByFire dip = Hands.under("char 1; pull (thick - 9) * (thick - 9); stand 1;");
        check.due("of like ones the least", dip.even(0, 4), 7);
        check.due("the lowest", dip.even(0, 0), 9);
        check.due("from both sides", dip.even(0, 63), 1);
        check.due("nearest", dip.even(0, 70), 1);
        check.due("far up", dip.even(0, 99), 19);
        HollowedByFire flat = Hands.under("char 1; pull 5; stand 1;");
        check.due("all alike", flat.even(8, 700), 1);
        for (int s : WRONG_SECTIONS) {
            check.due("no such SECTION", x.even(s, 1), -5);
            check.due("no such SECTION ahead of told", x.even(s, -1), -5);
        }
        for (int told : new int[] {-1, 1000, Hands.MIN, Hands.MAX}) {
            check.due("told", x.even(0, told), -7);
        }
        check.due("nothing is changed", x.carved(3, 1), 1);
    }

    private void promise25() {
        HollowedByFire x = new HollowedByFire();
        check.due("to the PEG", x.hours(0, 0), 3);
        check.due("to nothing", x.hours(0, 1), 4);
        x.carve(0, 1, 9);
        check.due("9 by 2 to 2", x.hours(0, 0), 4);
        check.due("9 by 2 to 0", x.hours(0, 1), 5);
        x.carve(0, 5, 9);
        check.due("the PEG as long as it is THICK", x.hours(0, 0), 0);
        x.carve(0, 5, 20);
        check.due("the PEG longer", x.hours(0, 0), 0);
        x.carve(0, 5, 0);
        check.due("no PEG", x.hours(0, 0), 5);
        x.set(2, 9);
        x.carve(0, 1, 20);
        check.due("20 by 1", x.hours(0, 1), 20);
        x.work(1, 9, 9);
        check.due("as it is carved", x.hours(0, 1), 20);
        HollowedByFire none = Hands.under("char thick < 5 and 2 < thick; pull 1; stand 1;");
        check.due("it never burns", none.hours(4, 1), -1);
        check.due("nor to the PEG", none.hours(4, 0), -1);
        none.carve(4, 5, 8);
        check.due("that it has already", none.hours(4, 0), 0);
        none.carve(4, 1, 4);
        none.carve(4, 5, 2);
        check.due("it burns for a while", none.hours(4, 0), 2);
        check.due("but not through", none.hours(4, 1), -1);
        for (int s : WRONG_SECTIONS) {
            check.due("no such SECTION", x.hours(s, 0), -5);
            check.due("no such SECTION ahead of what", x.hours(s, 2), -5);
        }
        for (int what : new int[] {-1, 2, Hands.MIN, Hands.MAX}) {
            check.due("no such what", x.hours(0, what), -7);
        }
    }

    private void left(HollowedByFire x, int s, int h, long above, long below) {
        check.due("left(" + s + ", " + h + ") above", x.left(s, h, 0), above);
        check.due("left(" + s + ", " + h + ") below", x.left(s, h, 1), below);
    }

    private void promise26() {
        // 8 THICK, a PEG of 2; CHAR is WIND less 3
        HollowedByFire x = Hands.under("char wind - 3; pull 1; stand 1;");
        x.set(1, 8);
        left(x, 4, 0, 1, 1);
        left(x, 4, 1, 1, 1);
        left(x, 4, 2, 7, 10);
        left(x, 4, 3, 3, 5);
        left(x, 4, 4, 1, 2);
        left(x, 4, 6, 1, 2);
        left(x, 4, 7, 2, 5);
        left(x, 4, 24, 2, 5);
        check.due("WIND is as it was", x.count(1), 8);
        check.due("by the WIND that there is", x.asks(0, 0, 0, 0), 5);
        x.carve(4, 5, 9);
        left(x, 4, 0, 0, 1);
        left(x, 4, 24, 0, 1);
        x.carve(4, 5, 0);
        left(x, 4, 24, 1, 1);
        x.carve(4, 5, 8);
        left(x, 4, 1, 2, 5);
        left(x, 3, 2, 7, 10);
        for (int s : WRONG_SECTIONS) {
            check.due("no such SECTION", x.left(s, 1, 0), HollowedByFire.NO);
        }
        for (int h : new int[] {-1, 25, Hands.MIN, Hands.MAX}) {
            check.due("no such hours", x.left(0, h, 0), HollowedByFire.NO);
        }
        for (int part : new int[] {-1, 2, Hands.MIN, Hands.MAX}) {
            check.due("no such part", x.left(0, 1, part), HollowedByFire.NO);
        }
    }

    private void promise27() {
        HollowedByFire x = new HollowedByFire();
        x.work(1, 6, 1);
        Hands.sheet(x, 0, 8, 8, 8, 8, 8, 8, 8, 8, 8);
        check.due("as THICK as told", x.judge(0, 0), -1);
        check.due("one less THICK", x.judge(1, 0), 6);
        x.cell(0, 6, 6);
        check.due("as THICK as that", x.judge(1, 0), -1);
        x.cell(0, 8, 9);
        check.due("the last", x.judge(1, 0), 8);
        x.cell(0, 2, Hands.MAX);
        check.due("the first", x.judge(1, 0), 2);
        Hands.sheet(x, 0, -1, 0, Hands.MIN, 0, 0, 0, 0, 0, 0);
        check.due("any numbers", x.judge(1, 0), -1);
        for (int n : new int[] {-1, 2, Hands.MIN, Hands.MAX}) {
            check.due("n", x.judge(n, 0), -5);
            check.due("n ahead of the SHEET", x.judge(n, 9), -5);
        }
        for (int s : new int[] {-1, 4, Hands.MIN, Hands.MAX}) {
            check.due("no such SHEET", x.judge(0, s), -2);
        }
        check.due("a missing SHEET", x.judge(0, 3), -11);
        Hands.sheet(x, 0, 8, 8, 8, 8, 8, 8, 8, 8);
        check.due("8 numbers", x.judge(0, 0), -2);
        Hands.sheet(x, 0, 8, 8, 8, 8, 8, 8, 8, 8, 8, 8);
        check.due("10 numbers", x.judge(0, 0), -2);
    }

    public static void main(String[] args) {
        FireTest test = new FireTest();
        test.promise24();
        test.promise25();
        test.promise26();
        test.promise27();
        test.check.end();
    }
}
