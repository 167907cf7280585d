/** Promises 31 to 38: trees, holes into them, felling, a village's trees. */
public final class TreesTest {
    private final Check check = new Check("TreesTest");

    private static int tree(HollowedByFire x, int girth, int lean, int knots, int... rings) {
        Hands.sheet(x, 0, rings);
        return x.tree(girth, lean, knots, 0);
    }

    private void promise31() {
        HollowedByFire x = new HollowedByFire();
        Hands.sheet(x, 0, 1, 2, 3, 4, 5);
        int[][] bad = {{0, 0, 0}, {100, 0, 0}, {9, -10, 0}, {9, 10, 0}, {9, 0, -1}, {9, 0, 10},
            {Hands.MIN, 0, 0}, {9, Hands.MIN, 0}, {9, 0, Hands.MIN}, {Hands.MAX, 0, 0}, {9, Hands.MAX, 0}, {9, 0, Hands.MAX}};
        for (int[] b : bad) {
            check.due("a number", x.tree(b[0], b[1], b[2], 0), -2);
            check.due("a number ahead of a missing SHEET", x.tree(b[0], b[1], b[2], 3), -2);
        }
        for (int s : new int[] {-1, 4, Hands.MIN, Hands.MAX}) {
            check.due("no such SHEET", x.tree(9, 0, 0, s), -2);
        }
        check.due("a missing SHEET", x.tree(9, 0, 0, 1), -11);
        check.due("4 RINGS", tree(x, 9, 0, 0, 1, 1, 1, 1), -2);
        check.due("6 RINGS", tree(x, 9, 0, 0, 1, 1, 1, 1, 1, 1), -2);
        check.due("a RING of 100", tree(x, 9, 0, 0, 1, 1, 1, 1, 100), -2);
        check.due("a RING of -1", tree(x, 9, 0, 0, -1, 9, 9, 9, 9), -2);
        check.due("all 0", tree(x, 9, 0, 0, 0, 0, 0, 0, 0), -2);
        check.due("none came", x.count(6), 0);
        check.due("the least", tree(x, 1, -9, 0, 0, 0, 0, 0, 1), 0);
        check.due("the most", tree(x, 99, 9, 9, 99, 99, 99, 99, 99), 1);
        for (int t = 2; t < 6; t++) {
            check.due("tree " + t, tree(x, 9, 0, 0, 1, 0, 0, 0, 0), t);
        }
        check.due("FULL", tree(x, 9, 0, 0, 1, 0, 0, 0, 0), -4);
        check.due("all 0 ahead of FULL", tree(x, 9, 0, 0, 0, 0, 0, 0, 0), -2);
        check.due("a missing SHEET ahead of FULL", x.tree(9, 0, 0, 1), -11);
        check.due("6 TREES", x.count(6), 6);
        Hands.sheet(x, 0, 0, 0, 0, 0, 1);
        check.due("the RINGS are kept", x.worth(2, 0), 9);
    }

    private void promise32() {
        HollowedByFire x = new HollowedByFire();
        check.due("no TREES", x.bore(0, 0), -5);
        tree(x, 50, 0, 0, 1, 1, 0, 0, 0);
        check.due("it wasn't BORED", x.bore(0, 4), -1);
        check.due("it was to 4", x.bore(0, 0), 4);
        check.due("it was to 0", x.bore(0, -1), 0);
        check.due("it wasn't BORED", x.bore(0, -1), -1);
        for (int t : new int[] {-1, 1, Hands.MIN, Hands.MAX}) {
            check.due("no such TREE", x.bore(t, 0), -5);
            check.due("no such TREE ahead of r", x.bore(t, 5), -5);
        }
        for (int r : new int[] {-2, 5, Hands.MIN, Hands.MAX}) {
            check.due("r", x.bore(0, r), -7);
        }
        check.due("refused, it stays", x.bore(0, 2), -1);
    }

    private void fraction(String call, long gotAbove, long gotBelow, long above, long below) {
        check.due(call + " above", gotAbove, above);
        check.due(call + " below", gotBelow, below);
    }

    private void worth(HollowedByFire x, int t, long above, long below) {
        fraction("worth(" + t + ")", x.worth(t, 0), x.worth(t, 1), above, below);
    }

    private void boring(HollowedByFire x, int t, long above, long below) {
        fraction("boring(" + t + ")", x.boring(t, 0), x.boring(t, 1), above, below);
    }

    private void promise33() {
        HollowedByFire x = new HollowedByFire();
        tree(x, 50, 0, 2, 1, 0, 0, 0, 0);
        tree(x, 50, 0, 2, 1, 1, 1, 1, 0);
        tree(x, 20, 0, 1, 0, 0, 1, 1, 1);
        tree(x, 27, 0, 9, 99, 99, 99, 99, 99);
        tree(x, 99, 0, 0, 99, 0, 0, 0, 98);
        worth(x, 0, 44, 1);
        worth(x, 1, 35, 1);
        // 5, and 0 twice: no GOOD is below 0
        worth(x, 2, 5, 3);
        worth(x, 3, 0, 1);
        worth(x, 4, 99 * 99 + 98 * 75, 197);
        x.bore(1, 3);
        worth(x, 1, 26, 1);
        x.bore(1, 4);
        worth(x, 1, 20, 1);
        x.bore(1, -1);
        worth(x, 1, 35, 1);
        for (int t : new int[] {-1, 5, Hands.MIN, Hands.MAX}) {
            check.due("no such TREE", x.worth(t, 0), HollowedByFire.NO);
            check.due("no such TREE", x.boring(t, 0), HollowedByFire.NO);
        }
        for (int part : new int[] {-1, 2, Hands.MIN, Hands.MAX}) {
            check.due("no such part", x.worth(0, part), HollowedByFire.NO);
            check.due("no such part", x.boring(0, part), HollowedByFire.NO);
        }
    }

    private void promise34() {
        HollowedByFire x = new HollowedByFire();
        check.due("none", x.which(), -1);
        tree(x, 10, 0, 9, 1, 0, 0, 0, 0);
        check.due("one, of 0", x.which(), 0);
        tree(x, 30, 0, 0, 1, 1, 0, 0, 0);
        check.due("27 is best", x.which(), 1);
        tree(x, 27, 0, 0, 1, 0, 0, 0, 0);
        check.due("of like ones the first", x.which(), 1);
        tree(x, 28, 0, 0, 98, 1, 0, 0, 0);
        check.due("28 less 6 by 99", x.which(), 3);
        tree(x, 28, 0, 0, 99, 1, 0, 0, 0);
        check.due("28 less 6 by 100", x.which(), 4);
        x.bore(1, 0);
        check.due("the known one counts", x.which(), 1);
        x.bore(1, 1);
        check.due("that, too", x.which(), 4);
    }

    private void promise35() {
        HollowedByFire x = new HollowedByFire();
        tree(x, 50, 0, 0, 1, 0, 0, 0, 1);
        // alone: there is nothing to choose
        boring(x, 0, 0, 1);
        tree(x, 40, 0, 0, 1, 0, 0, 0, 0);
        // 50 or 26, in the mean 38, 40 by the other: (50 + 40) by 2 less 40
        boring(x, 0, 5, 1);
        // 40 or 38
        boring(x, 1, 0, 1);
        tree(x, 47, 0, 0, 0, 1, 1, 1, 0);
        // 41, 35, 29, in the mean 35, 40 by the best other: 121 by 3 less 40
        boring(x, 2, 1, 3);
        boring(x, 0, 5, 1);
        x.bore(0, 0);
        boring(x, 0, 0, 1);
        // 50 is best now
        boring(x, 2, 0, 1);
        x.bore(0, 4);
        boring(x, 0, 0, 1);
        boring(x, 2, 1, 3);
        x.bore(1, 4);
        // 26 and 16 are the others: its mean 35 is best, and so is each of its GOODS
        boring(x, 2, 0, 1);
        x.bore(0, 2);
        // 38 is the other: (41 + 38 + 38) by 3 less 38
        boring(x, 2, 1, 1);
        x.bore(0, 3);
        // 32 is the other, 35 its mean: (41 + 35 + 32) by 3 less 35
        boring(x, 2, 1, 1);
        fractions();
    }

    private void fractions() {
        HollowedByFire x = new HollowedByFire();
        tree(x, 50, 0, 0, 3, 0, 0, 0, 4);
        tree(x, 45, 0, 0, 4, 0, 1, 0, 0);
        // 254 by 7 and 213 by 5: (150 + 4 * 42.6) by 7 less 42.6, that is 22.2 by 7
        worth(x, 0, 254, 7);
        worth(x, 1, 213, 5);
        boring(x, 0, 111, 35);
        // 45, 33; (4 * 45 + 254 by 7) by 5 less 213 by 5
        boring(x, 1, 23, 35);
    }

    private void promise36() {
        HollowedByFire x = new HollowedByFire();
        check.due("none", x.hole(), -1);
        tree(x, 50, 0, 0, 1, 0, 0, 0, 1);
        check.due("nothing to choose", x.hole(), -1);
        tree(x, 40, 0, 0, 1, 0, 0, 0, 0);
        check.due("5 by a HOLE", x.hole(), 0);
        tree(x, 50, 0, 0, 1, 0, 0, 0, 1);
        check.due("of like ones the first", x.hole(), 0);
        tree(x, 52, 0, 0, 1, 0, 0, 0, 1);
        check.due("6 by a HOLE", x.hole(), 3);
        x.bore(3, 4);
        check.due("it is BORED", x.hole(), 0);
        x.bore(0, 4);
        check.due("the next of the like ones", x.hole(), 2);
        x.bore(2, 4);
        check.due("nothing is worth anything", x.hole(), -1);
        x.bore(3, 0);
        check.due("nor that", x.hole(), -1);
    }

    private void fell(HollowedByFire x, int t, int boughs, int side, int hurt) {
        check.due("fell(" + t + ", " + boughs + ") to", x.fell(t, boughs, 0), side);
        check.due("fell(" + t + ", " + boughs + ") hurt", x.fell(t, boughs, 1), hurt);
    }

    private void promise37() {
        HollowedByFire x = new HollowedByFire();
        check.due("no TREES", x.fell(0, 0, 0), -5);
        tree(x, 59, 5, 4, 1, 0, 0, 0, 0);
        tree(x, 59, -5, 4, 1, 0, 0, 0, 0);
        tree(x, 9, 0, 1, 1, 0, 0, 0, 0);
        tree(x, 99, 9, 9, 1, 0, 0, 0, 0);
        tree(x, 99, -2, 9, 1, 0, 0, 0, 0);
        // 12 and 5, and 5 for each SIDE away from 0
        fell(x, 0, 0, 0, 17);
        fell(x, 0, 2, 1, 10);
        fell(x, 0, 4, 2, 15);
        fell(x, 0, 8, 0, 17);
        fell(x, 0, 16, 0, 17);
        fell(x, 0, 32, 0, 17);
        fell(x, 0, 64, 6, 15);
        fell(x, 0, 128, 7, 10);
        fell(x, 0, 130, 1, 10);
        fell(x, 0, 255, 0, 5);
        // from SIDE 4
        fell(x, 1, 0, 4, 17);
        fell(x, 1, 8, 3, 10);
        fell(x, 1, 32, 5, 10);
        fell(x, 1, 4, 2, 15);
        fell(x, 1, 64, 6, 15);
        fell(x, 1, 1, 4, 17);
        fell(x, 1, 2, 4, 17);
        fell(x, 1, 16, 4, 5);
        // it doesn't lean
        fell(x, 2, 0, 0, 3);
        fell(x, 2, 192, 6, 0);
        fell(x, 2, 128, 7, 0);
        // as much to one SIDE away on boughs as more: 36, 45, 54 less 12
        fell(x, 3, 0, 0, 36);
        fell(x, 3, 2, 1, 33);
        fell(x, 3, 4, 0, 36);
        // 36 and 2 for each SIDE: the farthest on boughs is 32
        fell(x, 4, 1, 0, 32);
        fell(x, 4, 3, 1, 30);
        leaning();
        for (int t : new int[] {-1, 5, 6, Hands.MIN, Hands.MAX}) {
            check.due("no such TREE", x.fell(t, 0, 0), -5);
            check.due("no such TREE ahead of all", x.fell(t, -1, 2), -5);
        }
        for (int boughs : new int[] {-1, 256, Hands.MIN, Hands.MAX}) {
            check.due("boughs", x.fell(0, boughs, 0), -7);
        }
        for (int what : new int[] {-1, 2, Hands.MIN, Hands.MAX}) {
            check.due("no such what", x.fell(0, 0, what), -7);
        }
    }

    private void leaning() {
        HollowedByFire x = new HollowedByFire();
        tree(x, 10, -1, 0, 1, 0, 0, 0, 0);
        tree(x, 10, 1, 0, 1, 0, 0, 0, 0);
        tree(x, 98, -9, 3, 1, 0, 0, 0, 0);
        fell(x, 0, 0, 4, 1);
        fell(x, 1, 0, 0, 1);
        fell(x, 2, 0, 4, 18);
        tree(x, 20, 0, 0, 1, 0, 0, 0, 0);
        fell(x, 3, 0, 0, 2);
        tree(x, 19, 9, 9, 1, 0, 0, 0, 0);
        // 28, and 9 for each SIDE, 12 less on boughs
        for (int side = 0; side < 8; side++) {
            boolean isNear = side == 0 || side == 1 || side == 7;
            fell(x, 4, 1 << side, isNear ? side : 0, side == 0 ? 16 : isNear ? 25 : 28);
        }
    }

    private void promise38() {
        HollowedByFire x = new HollowedByFire();
        Hands.sheet(x, 1, 50, 20, 100, 3);
        int[][] due = {{60, 0, 0}, {60, 1, 1}, {60, 10, 1}, {60, 11, 2}, {60, 40, 2}, {60, 41, 3}, {60, 57, 3}, {60, 58, 4},
            {60, 60, 4}, {60, 61, 5}, {60, 70, 5}, {60, 71, 6}, {100, 1, 1}, {101, 1, 0}, {101, 2, 1}, {999, 200, 0}, {1, 200, 200}, {4, 8, 8}};
        for (int[] d : due) {
            check.due("forest(1, " + d[0] + ", " + d[1] + ")", x.forest(1, d[0], d[1]), d[2]);
        }
        check.due("the SHEET stays", x.forest(1, 60, 1), 1);
        Hands.sheet(x, 2, 0);
        check.due("a year old it may be felled", x.forest(2, 1, 200), 199);
        check.due("every second year", x.forest(2, 2, 200), 99);
        Hands.sheet(x, 2, 999, 999);
        check.due("one a year", x.forest(2, 999, 1), 1);
        check.due("the other next year", x.forest(2, 999, 2), 2);
        x.sheet(2, 0, 0);
        check.due("no trees", x.forest(2, 1, 200), 0);
        x.sheet(2, 1, 40);
        check.due("40 of them", x.forest(2, 40, 200), 160);
        refusalsOfForest(x);
    }

    private void refusalsOfForest(HollowedByFire x) {
        for (int s : new int[] {-1, 4, Hands.MIN, Hands.MAX}) {
            check.due("no such SHEET", x.forest(s, 1, 1), -2);
        }
        for (int old : new int[] {0, 1000, -1, Hands.MIN, Hands.MAX}) {
            check.due("old", x.forest(1, old, 1), -2);
            check.due("old ahead of a missing SHEET", x.forest(3, old, 1), -2);
        }
        for (int years : new int[] {-1, 201, Hands.MIN, Hands.MAX}) {
            check.due("years", x.forest(1, 1, years), -2);
            check.due("years ahead of a missing SHEET", x.forest(3, 1, years), -2);
        }
        check.due("a missing SHEET", x.forest(3, 1, 1), -11);
        Hands.sheet(x, 1, 5, 1000);
        check.due("too old", x.forest(1, 1, 1), -2);
        check.due("too old, by no years, too", x.forest(1, 1, 0), -2);
        Hands.sheet(x, 1, 5, 999, -1);
        check.due("below 0", x.forest(1, 1, 1), -2);
    }

    public static void main(String[] args) {
        TreesTest test = new TreesTest();
        test.promise31();
        test.promise32();
        test.promise33();
        test.promise34();
        test.promise35();
        test.promise36();
        test.promise37();
        test.promise38();
        test.check.end();
    }
}
