/** Promises 1 to 5: a new object, and the hull as it is carved. */
public final class CarvingTest {
    private static final int[] LEAST = {1, 1, 1, 1, 0, 0};
    private static final int[] MOST = {99, 20, 99, 99, 1, 20};
    private static final int[] AT_FIRST = {20, 8, 10, 30, 0, 2};

    private final Check check = new Check("CarvingTest");

    private void promise1() {
        HollowedByFire x = new HollowedByFire();
        int[] counts = {5, 0, 3, 2, 0, 0, 0, 1, 0, 0};
        for (int what = 0; what < 10; what++) {
            check.due("new: count(" + what + ")", x.count(what), counts[what]);
        }
        for (int s = 0; s < 9; s++) {
            for (int what = 0; what < 6; what++) {
                check.due("new: carved(" + s + ", " + what + ")", x.carved(s, what), AT_FIRST[what]);
            }
        }
        check.due("new: worth(0, 0)", x.worth(0, 0), HollowedByFire.NO);
        check.due("new: workTold(0, 0)", x.workTold(0, 0), -5);
        check.due("new: back()", x.back(), -3);
        check.due("new: cell(0, 0, 0)", x.cell(0, 0, 0), -11);
        HollowedByFire other = new HollowedByFire();
        x.carve(0, 0, 77);
        check.due("one object is not the other", other.carved(0, 0), 20);
    }

    private void promises2And3() {
        HollowedByFire x = new HollowedByFire();
        for (int what = 0; what < 6; what++) {
            for (int s = 0; s < 9; s++) {
                check.due("carve least", x.carve(s, what, LEAST[what]), AT_FIRST[what]);
                check.due("carved least", x.carved(s, what), LEAST[what]);
                check.due("carve below", x.carve(s, what, LEAST[what] - 1), -7);
                check.due("carve above", x.carve(s, what, MOST[what] + 1), -7);
                check.due("carve far below", x.carve(s, what, Hands.MIN), -7);
                check.due("carve far above", x.carve(s, what, Hands.MAX), -7);
                check.due("carve most", x.carve(s, what, MOST[what]), LEAST[what]);
                check.due("carved most", x.carved(s, what), MOST[what]);
            }
        }
        x.carve(3, 1, 7);
        check.due("its neighbours stay", x.carved(2, 1) * 1000 + x.carved(3, 1) * 100 + x.carved(4, 1), 20720);
        for (int s : new int[] {-1, 9, Hands.MIN, Hands.MAX}) {
            check.due("carve of no SECTION", x.carve(s, 0, 5), -5);
            check.due("carve of no SECTION ahead of what", x.carve(s, 6, 0), -5);
            check.due("carved of no SECTION", x.carved(s, 0), -5);
            check.due("carved of no SECTION ahead of what", x.carved(s, -1), -5);
        }
        for (int what : new int[] {-1, 6, Hands.MIN, Hands.MAX}) {
            check.due("carve of no what", x.carve(0, what, 1), -7);
            check.due("carved of no what", x.carved(0, what), -7);
        }
    }

    private void promise4() {
        HollowedByFire x = new HollowedByFire();
        int[] first = {5, 0, 3, 2, 0};
        for (int what = 0; what < 5; what++) {
            int least = what == 3 ? 1 : 0;
            int most = what == 3 ? 5 : 9;
            check.due("set least", x.set(what, least), first[what]);
            check.due("set below", x.set(what, least - 1), -2);
            check.due("set above", x.set(what, most + 1), -2);
            check.due("set far below", x.set(what, Hands.MIN), -2);
            check.due("set far above", x.set(what, Hands.MAX), -2);
            check.due("refused, it stays", x.count(what), least);
            check.due("set most", x.set(what, most), least);
            check.due("set is counted", x.count(what), most);
        }
        for (int what : new int[] {-1, 5, Hands.MIN, Hands.MAX}) {
            check.due("set of no what", x.set(what, 1), -1);
            check.due("set of no what ahead of v", x.set(what, 99), -1);
        }
    }

    private void promise5() {
        HollowedByFire x = new HollowedByFire();
        x.work(0, 0, 0);
        x.work(0, 0, 0);
        x.work(0, 0, 0);
        Hands.sheet(x, 0, 1, 0, 0, 0, 0);
        x.tree(9, 0, 0, 0);
        x.tree(9, 0, 0, 0);
        Hands.text(x, "char 1;pull 2;stand 3;");
        Hands.text(x, "char 1;pull 2;stand 3;");
        Hands.text(x, "char 1;pull 2;stand 3;");
        x.force(2);
        Hands.feed(x, "abcdefghijk");
        int[] counts = {5, 0, 3, 2, 0, 3, 2, 4, 2, 11};
        for (int what = 0; what < 10; what++) {
            check.due("count(" + what + ")", x.count(what), counts[what]);
        }
        for (int what : new int[] {-1, 10, Hands.MIN, Hands.MAX}) {
            check.due("count of no what", x.count(what), -2);
        }
    }

    public static void main(String[] args) {
        CarvingTest test = new CarvingTest();
        test.promise1();
        test.promises2And3();
        test.promise4();
        test.promise5();
        test.check.end();
    }
}
