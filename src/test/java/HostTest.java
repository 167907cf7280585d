/** Promises 44 to 48: sheets, and what the host takes and brings. */
public final class HostTest {
    private final Check check = new Check("HostTest");

    private void promise44() {
        HollowedByFire x = new HollowedByFire();
        for (int s : new int[] {-1, 4, Hands.MIN, Hands.MAX}) {
            check.due("no such SHEET", x.sheet(s, 2, 1), -2);
            check.due("no such SHEET ahead of -14", x.sheet(s, 2, -1), -2);
            check.due("no such SHEET to miss", x.sheet(s, -1, 1), -2);
        }
        for (int sort : new int[] {-2, 3, Hands.MIN, Hands.MAX}) {
            check.due("no such sort", x.sheet(0, sort, 1), -2);
            check.due("no such sort ahead of -14", x.sheet(0, sort, -1), -2);
        }
        for (int sort = 0; sort < 3; sort++) {
            check.due("41", x.sheet(0, sort, 41), -2);
            check.due("far above", x.sheet(0, sort, Hands.MAX), -2);
            check.due("-1", x.sheet(0, sort, -1), -14);
            check.due("far below", x.sheet(0, sort, Hands.MIN), -14);
            check.due("still missing", x.cell(0, 0, 0), -11);
        }
        for (int s = 0; s < 4; s++) {
            for (int sort = 0; sort < 3; sort++) {
                check.due("40", x.sheet(s, sort, 40), 1);
                check.due("the last place", x.cell(s, 39, 1), 1);
                check.due("none behind it", x.cell(s, 40, 1), -12);
                check.due("0", x.sheet(s, sort, 0), 1);
                check.due("no place", x.cell(s, 0, 1), -12);
            }
            for (int n : new int[] {5, 41, -1, Hands.MIN, Hands.MAX}) {
                x.sheet(s, 0, 3);
                check.due("missing, n doesn't matter", x.sheet(s, -1, n), 1);
                check.due("then it is missing", x.cell(s, 0, 1), -11);
            }
        }
        check.due("to miss what is missing", x.sheet(0, -1, 0), 1);
        Hands.sheet(x, 0, 9, 9, 9, 9, 9, 9, 9, 9, 9);
        x.sheet(0, 2, 9);
        Hands.sheet(x, 1, 0, 0, 0, 0, 0, 0, 0, 0, 0);
        check.due("all 0", x.wished(0, 0, 0), -2);
        for (int i = 0; i < 9; i++) {
            x.cell(0, i, 7);
        }
        check.due("as filled", x.wished(0, 0, 0), 7);
        x.sheet(0, 2, 8);
        x.sheet(0, 2, 41);
        check.due("refused, the SHEET stays", x.cell(0, 7, 1), 1);
        check.due("as small as it is", x.cell(0, 8, 1), -12);
    }

    /** What a number of a SHEET is, as the age of one tree tells it by three questions. */
    private void is(String what, HollowedByFire x, int s, int v) {
        x.sheet(3, -1, 0);
        check.due(what + " " + v, x.forest(s, Math.max(v, 1), 1), v > 0 ? 1 : 0);
        check.due(what + " isn't above " + v, x.forest(s, v + 1, 1), 0);
    }

    private void promise45() {
        HollowedByFire x = new HollowedByFire();
        for (int s : new int[] {-1, 4, Hands.MIN, Hands.MAX}) {
            check.due("no such SHEET", x.cell(s, 0, 0), -2);
        }
        check.due("missing", x.cell(2, 0, 0), -11);
        check.due("missing ahead of the place", x.cell(2, -1, 0), -11);
        x.sheet(2, 2, 3);
        for (int i : new int[] {-1, 3, Hands.MIN, Hands.MAX}) {
            check.due("a place outside", x.cell(2, i, 0), -12);
        }
        for (int i = 0; i < 3; i++) {
            check.due("a place", x.cell(2, i, 100 + i), 1);
        }
        is("the oldest is", x, 2, 102);
        int[][] told = {{0, 127, 127}, {0, 256 + 5, 5}, {0, -256 + 6, 6}, {0, 65536 * 7 + 3, 3}, {1, 256 + 5, 261},
            {1, 65536 + 9, 9}, {1, -65536 + 998, 998}, {2, 998, 998}, {0, 512, 0}, {1, 131072, 0}};
        for (int[] t : told) {
            x.sheet(1, t[0], 1);
            check.due("cell", x.cell(1, 0, t[1]), 1);
            is("sort " + t[0] + ", " + t[1] + " is", x, 1, t[2]);
        }
        int[][] wrong = {{0, 128}, {0, 255}, {0, -1}, {1, 32768}, {1, 65535}, {1, -1}, {2, 65536 + 9}, {2, 256 * 256 * 256}};
        for (int[] w : wrong) {
            x.sheet(1, w[0], 1);
            x.cell(1, 0, w[1]);
            check.due("no age, of sort " + w[0] + " " + w[1], x.forest(1, 1, 1), -2);
        }
    }

    /** The numbers of a SHEET, by the THICKNESS of SECTIONS that is less. */
    private String row(HollowedByFire x, int s) {
        StringBuilder all = new StringBuilder();
        for (int i = 0; i < 9; i++) {
            int v = 0;
            Hands.carveAll(x, 1, 20);
            for (int t = 19; t > 0; t--) {
                x.carve(i, 1, t);
                v = x.judge(0, s) == i ? Math.max(v, t + 1) : v;
            }
            all.append(i == 0 ? "" : " ").append(v);
        }
        return all.toString();
    }

    private void rowIs(HollowedByFire x, int s, String want) {
        String got = row(x, s);
        check.isTrue("SHEET " + s + " is " + got + ", due is " + want, got.equals(want));
    }

    private void promise46() {
        HollowedByFire x = new HollowedByFire();
        Hands.sheet(x, 0, 2, 3, 4, 5, 6, 7, 8, 9, 10);
        x.sheet(1, 2, 9);
        check.due("copy", x.copy(0, 2, 1, 5, 3), 3);
        rowIs(x, 1, "0 0 0 0 0 4 5 6 0");
        rowIs(x, 0, "2 3 4 5 6 7 8 9 10");
        check.due("all", x.copy(0, 0, 1, 0, 9), 9);
        rowIs(x, 1, "2 3 4 5 6 7 8 9 10");
        check.due("to the right", x.copy(0, 0, 0, 2, 7), 7);
        rowIs(x, 0, "2 3 2 3 4 5 6 7 8");
        check.due("to the left", x.copy(1, 2, 1, 0, 7), 7);
        rowIs(x, 1, "4 5 6 7 8 9 10 9 10");
        check.due("none at the end", x.copy(0, 9, 1, 9, 0), 0);
        check.due("one at the end", x.copy(0, 8, 1, 8, 1), 1);
        rowIs(x, 1, "4 5 6 7 8 9 10 9 8");
        int[][] outside = {{-1, 0, 1}, {0, -1, 1}, {0, 0, -1}, {0, 0, 10}, {1, 0, 9}, {0, 1, 9}, {9, 0, 1}, {0, 9, 1},
            {10, 0, 0}, {0, 10, 0}, {-1, 0, 0}, {0, -1, 0}, {Hands.MAX, 0, 1}, {0, Hands.MAX, Hands.MAX},
            {1, 1, Hands.MAX}, {Hands.MIN, 0, 1}, {0, 0, Hands.MIN}, {Hands.MAX, Hands.MAX, Hands.MIN}};
        for (int[] o : outside) {
            check.due("a place outside", x.copy(0, o[0], 1, o[1], o[2]), -12);
        }
        rowIs(x, 1, "4 5 6 7 8 9 10 9 8");
        x.sheet(2, 1, 4);
        check.due("unlike sorts", x.copy(0, 0, 2, 0, 1), -13);
        check.due("unlike sorts ahead of the places", x.copy(2, -1, 0, 9, -1), -13);
        check.due("a missing one", x.copy(0, 0, 3, 0, 1), -11);
        check.due("a missing one ahead of the sorts", x.copy(3, 0, 2, 0, 1), -11);
        for (int s : new int[] {-1, 4, Hands.MIN, Hands.MAX}) {
            check.due("no such SHEET", x.copy(s, 0, 0, 0, 1), -2);
            check.due("no such SHEET ahead of a missing one", x.copy(3, 0, s, 0, 1), -2);
            check.due("no such other ahead of a missing one", x.copy(s, 0, 3, 0, 1), -2);
        }
        x.sheet(3, 2, 3);
        check.due("by the size of the one", x.copy(3, 0, 0, 0, 4), -12);
        check.due("by the size of the other", x.copy(0, 0, 3, 0, 4), -12);
        check.due("3 to 3", x.copy(0, 0, 3, 0, 3), 3);
    }

    private void promise47() {
        HollowedByFire x = new HollowedByFire();
        x.sheet(0, 0, 12);
        int[] numbers = {7, 5, 9, 4, 6, 0, 0, 1, 3, 2, 8, 8};
        for (int i = 0; i < 12; i++) {
            x.cell(0, i, numbers[i]);
        }
        check.due("none", x.worksBy(0, 0, 0, 0), 0);
        check.due("from place 1 on", x.worksBy(0, 0, 1, 2), 1);
        check.due("KIND", x.workTold(0, 0), 5);
        check.due("SECTION", x.workTold(0, 1), 9);
        check.due("MORE", x.workTold(0, 2), 4);
        check.due("one came", x.count(5), 1);
        check.due("from place 3 on", x.worksBy(0, 0, 3, 3), 3);
        check.due("the last KIND", x.workTold(3, 0), 2);
        check.due("the last MORE", x.workTold(3, 2), 8);
        check.due("too many", x.worksBy(0, 0, 3, 4), -12);
        check.due("what stood ahead came", x.count(5), 7);
        check.due("a third number outside", x.worksBy(0, 0, 10, 1), -12);
        check.due("below 0", x.worksBy(0, 0, -1, 2), -12);
        check.due("far outside", x.worksBy(0, 0, Hands.MAX, 1), -12);
        check.due("far below", x.worksBy(0, 0, Hands.MIN, 10), -12);
        check.due("none of these came", x.count(5), 7);
        for (int at : new int[] {-1, 12, 13, Hands.MIN, Hands.MAX}) {
            check.due("no place is needed for none: " + at, x.worksBy(0, 0, at, 0), 0);
        }
        check.due("3 more", x.worksBy(0, 0, 3, 3), 3);
        check.due("others are left out when it is full", x.worksBy(0, 0, 3, 3), 0);
        check.due("outside, when it is full", x.worksBy(0, 0, 3, 4), -12);
        x.forget();
        check.due("one more fits", x.worksBy(0, 0, 3, 3), 1);
        sorts();
        refusalsOfWorksBy();
    }

    private void sorts() {
        for (int sort = 0; sort < 3; sort++) {
            HollowedByFire x = new HollowedByFire();
            x.sheet(3, sort, 40);
            check.due("10 of them", x.worksBy(3, sort, 10, 10), 10);
            x = new HollowedByFire();
            x.sheet(3, sort, 3);
            x.cell(3, 0, 1 << 8 * (sort + 1));
            // of bytes and shorts that is 0, of ints no KIND
            check.due("the lowest bits", x.worksBy(3, sort, 0, 1), sort == 2 ? 0 : 1);
            x.cell(3, 2, 10);
            check.due("left out", x.worksBy(3, sort, 0, 1), 0);
        }
    }

    private void refusalsOfWorksBy() {
        HollowedByFire x = new HollowedByFire();
        x.sheet(1, 1, 9);
        for (int s : new int[] {-1, 4, Hands.MIN, Hands.MAX}) {
            check.due("no such SHEET", x.worksBy(s, 1, 0, 1), -2);
        }
        for (int sort : new int[] {-1, 3, Hands.MIN, Hands.MAX}) {
            check.due("no such sort", x.worksBy(1, sort, 0, 1), -2);
            check.due("no such sort ahead of a missing SHEET", x.worksBy(0, sort, 0, 1), -2);
        }
        for (int n : new int[] {-1, 11, Hands.MIN, Hands.MAX}) {
            check.due("n", x.worksBy(1, 1, 0, n), -2);
            check.due("n ahead of a missing SHEET", x.worksBy(0, 1, 0, n), -2);
        }
        check.due("missing", x.worksBy(0, 1, 0, 1), -11);
        check.due("another sort", x.worksBy(1, 0, 0, 1), -13);
        check.due("another sort ahead of the place", x.worksBy(1, 2, -1, 1), -13);
        check.due("nothing came", x.count(5), 0);
    }

    private void promise48() {
        HollowedByFire x = new HollowedByFire();
        for (int i = 0; i < 16; i++) {
            check.due("nothing lies there", x.taken(i, i % 7), -11);
        }
        Hands.sheet(x, 0, 1, 0, 0, 0, 0);
        x.tree(33, 0, 0, 0);
        x.tree(44, 0, 0, 0);
        for (int kind = 0; kind < 6; kind++) {
            x.work(kind, 0, 0);
        }
        boolean[][] is = {{true}, {true, true}, {true, true, true}, {true, false, false, true},
            {true, false, false, false, true}, {true, false, false, false, true, true}};
        for (int w = 0; w < 6; w++) {
            for (int kind = 0; kind < 6; kind++) {
                boolean due = kind < is[w].length && is[w][kind];
                check.due("KIND " + w + " taken for " + kind, x.taken(6 + w, kind), due ? w : -13);
            }
            check.due("a WORKING is no TREE", x.taken(6 + w, 6), -13);
        }
        for (int kind = 0; kind < 6; kind++) {
            check.due("a TREE is no WORKING", x.taken(0, kind), -13);
        }
        check.due("TREE 0", x.taken(0, 6), 33);
        check.due("TREE 1", x.taken(1, 6), 44);
        check.due("no TREE 2", x.taken(2, 6), -11);
        check.due("no WORKING 6", x.taken(12, 0), -11);
        check.due("no WORKING 9", x.taken(15, 6), -11);
        for (int i : new int[] {-1, 16, Hands.MIN, Hands.MAX}) {
            check.due("a place outside", x.taken(i, 0), -12);
            check.due("kind ahead of the place", x.taken(i, 7), -2);
        }
        for (int kind : new int[] {-1, 7, Hands.MIN, Hands.MAX}) {
            check.due("no such kind", x.taken(0, kind), -2);
        }
        x.forget();
        check.due("forgotten", x.taken(11, 5), -11);
        for (int w = 5; w < 10; w++) {
            x.work(0, 0, 0);
        }
        check.due("the tenth", x.taken(15, 0), 9);
    }

    public static void main(String[] args) {
        HostTest test = new HostTest();
        test.promise44();
        test.promise45();
        test.promise46();
        test.promise47();
        test.promise48();
        test.check.end();
    }
}
