/** Promises 10 to 16: workings, what comes of them, the days they take. */
public final class WorkingsTest {
    private final Check check = new Check("WorkingsTest");

    private void row(String what, HollowedByFire x, int n, int of, String want) {
        String got = Hands.row(x, n, of);
        check.isTrue(what + ": is " + got + ", due is " + want, got.equals(want));
    }

    private void promises10And11() {
        HollowedByFire x = new HollowedByFire();
        check.due("forget of none", x.forget(), -3);
        int[][] bad = {{-1, 0, 0}, {6, 0, 0}, {0, -1, 0}, {0, 10, 0}, {0, 0, -1}, {0, 0, 10},
            {Hands.MIN, 0, 0}, {0, Hands.MAX, 0}, {0, 0, Hands.MIN}};
        for (int[] b : bad) {
            check.due("work of a wrong number", x.work(b[0], b[1], b[2]), -2);
        }
        for (int w = 0; w < 10; w++) {
            check.due("work " + w, x.work(w % 6, w, 9 - w), w);
        }
        check.due("an eleventh", x.work(0, 0, 0), -4);
        check.due("BAD ahead of FULL", x.work(6, 0, 0), -2);
        check.due("still 10", x.count(5), 10);
        check.due("forget", x.forget(), 9);
        check.due("workTold of the forgotten", x.workTold(9, 0), -5);
        check.due("there is room again", x.work(5, 9, 9), 9);
        check.due("the new one is told", x.workTold(9, 0), 5);
        for (int w = 9; w >= 0; w--) {
            check.due("forget to " + w, x.forget(), w);
        }
        check.due("forget of none", x.forget(), -3);
    }

    private void promise12() {
        HollowedByFire x = new HollowedByFire();
        x.work(5, 9, 7);
        x.work(0, 3, 0);
        check.due("KIND", x.workTold(0, 0), 5);
        check.due("SECTION", x.workTold(0, 1), 9);
        check.due("MORE", x.workTold(0, 2), 7);
        check.due("days", x.workTold(0, 3), 10);
        check.due("SECTION of 1", x.workTold(1, 1), 3);
        check.due("days of 1", x.workTold(1, 3), 1);
        for (int w : new int[] {-1, 2, Hands.MIN, Hands.MAX}) {
            check.due("no such WORKING", x.workTold(w, 0), -5);
            check.due("no such WORKING ahead of what", x.workTold(w, 4), -5);
        }
        for (int what : new int[] {-1, 4, Hands.MIN, Hands.MAX}) {
            check.due("no such what", x.workTold(0, what), -7);
        }
        // KIND by MORE 3: at one SECTION, at all
        int[] atOne = {4, 4, 6, 4, 8, 11};
        int[] atAll = {4, 8, 10, 4, 8, 11};
        for (int men = 1; men <= 5; men++) {
            for (int kind = 0; kind < 6; kind++) {
                HollowedByFire y = new HollowedByFire();
                y.set(3, men);
                y.work(kind, 4, 3);
                y.work(kind, 9, 3);
                check.due("days at one, KIND " + kind, y.workTold(0, 3), (atOne[kind] + men - 1) / men);
                check.due("days at all, KIND " + kind, y.workTold(1, 3), (atAll[kind] + men - 1) / men);
            }
        }
    }

    private void promise13() {
        HollowedByFire x = new HollowedByFire();
        x.carve(2, 0, 33);
        row("a HULL as it is carved", x, 0, 0, "20 20 33 20 20 20 20 20 20");
        row("nothing BROKEN", x, 0, 3, "0 0 0 0 0 0 0 0 0");
        check.due("n ahead of all", x.hull(1, 9, 4), -5);
        check.due("n below 0", x.hull(-1, 0, 0), -5);
        check.due("n far above", x.hull(Hands.MAX, 0, 0), -5);
        for (int no : new int[] {-1, 9, Hands.MIN, Hands.MAX}) {
            check.due("no such SECTION", x.hull(0, no, 0), -7);
        }
        for (int no : new int[] {-1, 4, Hands.MIN, Hands.MAX}) {
            check.due("no such what", x.hull(0, 0, no), -7);
        }
        work();
        fire();
        pegs();
        inches();
        pullAndStand();
        sewing();
        raising();
    }

    private void work() {
        HollowedByFire x = new HollowedByFire();
        x.work(0, 9, 9);
        row("a WORK makes no one WIDER", x, 1, 0, "20 20 20 20 20 20 20 20 20");
        row("a WORK makes no one less THICK", x, 1, 1, "8 8 8 8 8 8 8 8 8");
        row("a WORK makes no one HIGHER", x, 1, 2, "10 10 10 10 10 10 10 10 10");
        check.due("a WORK breaks nothing", x.state(1, 0), 0);
    }

    private void fire() {
        HollowedByFire x = new HollowedByFire();
        x.carve(1, 1, 5);
        x.carve(2, 1, 20);
        x.work(1, 9, 3);
        x.work(1, 2, 9);
        row("3 hours", x, 1, 1, "2 0 14 2 2 2 2 2 2");
        row("3 hours burn one through", x, 1, 3, "0 1 0 0 0 0 0 0 0");
        row("9 more hours", x, 2, 1, "2 0 0 2 2 2 2 2 2");
        row("WIDE stays", x, 2, 0, "20 20 20 20 20 20 20 20 20");
        x.set(2, 5);
        row("one inch an hour by more SAP", x, 2, 1, "5 2 8 5 5 5 5 5 5");
        HollowedByFire none = Hands.under("char thick - 5; pull 1; stand 1;");
        none.work(1, 9, 9);
        row("the law is asked anew each hour", none, 1, 1, "5 5 5 5 5 5 5 5 5");
        HollowedByFire whole = Hands.under("char thick = 8 or wide = 20 and knot; pull 1; stand 1;");
        whole.carve(4, 4, 1);
        whole.carve(5, 4, 1);
        whole.carve(5, 0, 21);
        whole.work(1, 9, 4);
        row("knot and wide are asked, too", whole, 1, 1, "7 7 7 7 4 7 7 7 7");
        HollowedByFire all = Hands.under("char thick; pull 1; stand 1;");
        all.work(1, 7, 1);
        check.due("THICK just 0 is BROKEN", all.hull(1, 7, 3), 1);
    }

    private void pegs() {
        HollowedByFire x = new HollowedByFire();
        x.carve(0, 5, 0);
        x.carve(1, 5, 3);
        x.carve(2, 5, 8);
        x.carve(3, 5, 20);
        x.carve(4, 5, 1);
        x.carve(4, 1, 2);
        x.work(2, 9, 9);
        row("to the PEGS", x, 1, 1, "0 2 8 8 0 2 2 2 2");
        row("two burn through", x, 1, 3, "1 0 0 0 1 0 0 0 0");
        x.work(2, 2, 1);
        x.work(1, 2, 1);
        row("a CHARRED doesn't heed PEGS", x, 3, 1, "0 2 6 8 0 2 2 2 2");
    }

    private void inches() {
        HollowedByFire x = Hands.under("char 1; pull 0; stand 999;");
        x.work(3, 5, 1);
        x.work(3, 9, 4);
        x.work(3, 0, 9);
        row("1 inch: WIDE", x, 1, 0, "20 21 22 23 24 23 22 21 20");
        row("1 inch: HIGH", x, 1, 2, "10 10 10 10 10 10 10 10 10");
        row("5 inches: WIDE", x, 2, 0, "20 25 30 35 40 35 30 25 20");
        row("5 inches: HIGH", x, 2, 2, "12 10 10 10 10 10 10 10 12");
        row("12 inches at most: WIDE", x, 3, 0, "20 32 44 56 68 56 44 32 20");
        row("12 inches at most: HIGH", x, 3, 2, "16 10 10 10 10 10 10 10 16");
        row("THICK stays", x, 3, 1, "8 8 8 8 8 8 8 8 8");
        Hands.carveAll(x, 0, 99);
        Hands.carveAll(x, 2, 99);
        check.due("WIDER than can be carved", x.hull(3, 4, 0), 147);
        check.due("HIGHER than can be carved", x.hull(3, 0, 2), 105);
    }

    private void pullAndStand() {
        // one inch: PULL times SHARE is 40 at the MIDDLE, 10 at SECTION 1
        HollowedByFire x = Hands.under("char 1; pull 10; stand 4;");
        x.work(3, 0, 1);
        Hands.carveAll(x, 3, 6);
        row("no more than it stands", x, 1, 3, "0 0 0 0 0 0 0 0 0");
        Hands.carveAll(x, 3, 5);
        row("more than it stands", x, 1, 3, "0 0 0 0 1 0 0 0 0");
        Hands.carveAll(x, 3, 1);
        row("30 is above 20, 20 isn't", x, 1, 3, "0 0 0 1 1 1 0 0 0");
        x.carve(3, 3, 99);
        row("each by its GRAIN", x, 1, 3, "0 0 0 0 1 1 0 0 0");
        HollowedByFire now = Hands.under("char 1; pull (24 < wide) * 999; stand 0;");
        now.work(3, 0, 1);
        now.work(3, 0, 1);
        row("as WIDE as it is behind the INCH", now, 1, 3, "0 0 0 0 0 0 0 0 0");
        row("at 25 and more", now, 2, 3, "0 0 0 1 1 1 0 0 0");
        HollowedByFire knot = Hands.under("char 1; pull 999; stand 999 * (knot = 0);");
        knot.carve(1, 4, 1);
        knot.carve(2, 4, 1);
        knot.work(3, 0, 1);
        row("by the KNOT", knot, 1, 3, "0 1 1 0 0 0 0 0 0");
    }

    private void sewing() {
        HollowedByFire x = Hands.under("char 9; pull 999; stand 0;");
        x.carve(4, 1, 9);
        x.work(3, 0, 1);
        x.work(1, 4, 1);
        x.work(4, 9, 0);
        x.work(4, 9, 2);
        x.work(4, 5, 1);
        x.work(4, 4, 9);
        x.work(4, 9, 9);
        check.due("all pulled ones are BROKEN", x.state(1, 0), 254);
        check.due("burnt, it is BROKEN still", x.state(2, 0), 254);
        check.due("SEWN by 0", x.state(3, 0), 254);
        check.due("the first 2 are whole", x.state(4, 0), 248);
        check.due("then SECTION 5", x.state(5, 0), 216);
        check.due("of THICK 0 it stays BROKEN", x.state(6, 0), 216);
        check.due("then all but that one", x.state(7, 0), 16);
        row("SEWN ones are no HIGHER", x, 7, 2, "10 10 10 10 10 10 10 10 10");
        HollowedByFire thin = Hands.under("char 9; pull 999; stand 0;");
        Hands.carveAll(thin, 1, 1);
        thin.work(3, 0, 1);
        thin.work(4, 9, 9);
        check.due("of THICK 1 it is SEWN", thin.state(2, 0), 0);
        HollowedByFire skip = Hands.under("char 9; pull 999; stand 0;");
        skip.work(3, 0, 1);
        skip.work(1, 1, 1);
        skip.work(4, 9, 1);
        check.due("one of THICK 0 isn't counted", skip.state(3, 0), 250);
    }

    private void raising() {
        HollowedByFire x = Hands.under("char 9; pull 999; stand 0;");
        x.work(5, 2, 4);
        x.work(3, 0, 2);
        x.work(5, 9, 3);
        row("one is RAISED", x, 1, 2, "10 10 14 10 10 10 10 10 10");
        row("all are RAISED", x, 3, 2, "14 13 17 13 13 13 13 13 14");
        check.due("and 3 are SEWN", x.state(3, 0), 240);
    }

    private void promise14() {
        HollowedByFire x = new HollowedByFire();
        check.due("state(0, 0)", x.state(0, 0), 0);
        check.due("state(0, 1)", x.state(0, 1), 0);
        check.due("state(0, 2)", x.state(0, 2), -1);
        x.work(0, 9, 1);
        x.work(1, 6, 9);
        x.work(3, 0, 3);
        x.work(3, 0, 9);
        check.due("BROKEN by fire", x.state(2, 0), 64);
        check.due("BROKEN by 3 inches", x.state(3, 0), 80);
        check.due("SPREAD 3", x.state(3, 1), 3);
        check.due("SPREAD 12", x.state(4, 1), 12);
        check.due("no first one yet", x.state(1, 2), -1);
        for (int n = 2; n <= 4; n++) {
            check.due("the first one", x.state(n, 2), 1);
        }
        HollowedByFire again = new HollowedByFire();
        again.work(3, 0, 3);
        again.work(4, 9, 9);
        again.work(3, 0, 1);
        check.due("the first of two", again.state(3, 2), 0);
        check.due("BROKEN again", again.state(3, 0), 16);
        for (int n : new int[] {-1, 5, Hands.MIN, Hands.MAX}) {
            check.due("not so many", x.state(n, 0), -5);
            check.due("not so many ahead of what", x.state(n, 3), -5);
        }
        for (int what : new int[] {-1, 3, Hands.MIN, Hands.MAX}) {
            check.due("no such what", x.state(4, what), -7);
        }
    }

    private void promise15() {
        HollowedByFire x = new HollowedByFire();
        check.due("days(0, 0)", x.days(0, 0), 0);
        check.due("days(0, 1)", x.days(0, 1), -1);
        x.work(0, 0, 0);
        x.work(0, 0, 2);
        x.work(1, 0, 3);
        x.work(4, 0, 2);
        x.work(4, 0, 2);
        // of one man 1, 3, 4, 6, 6; of two 1, 2, 2, 3, 3
        int[] all = {0, 1, 3, 5, 8, 11};
        int[] longest = {-1, 0, 1, 1, 3, 3};
        for (int n = 0; n <= 5; n++) {
            check.due("days(" + n + ", 0)", x.days(n, 0), all[n]);
            check.due("days(" + n + ", 1)", x.days(n, 1), longest[n]);
        }
        x.set(3, 1);
        check.due("of one man", x.days(5, 0), 20);
        check.due("of one man, which", x.days(3, 1), 2);
        x.set(3, 5);
        check.due("of five men", x.days(5, 0), 7);
        check.due("of five men, which", x.days(5, 1), 3);
        for (int n : new int[] {-1, 6, Hands.MIN, Hands.MAX}) {
            check.due("not so many", x.days(n, 0), -5);
            check.due("not so many ahead of what", x.days(n, 2), -5);
        }
        for (int what : new int[] {-1, 2, Hands.MIN, Hands.MAX}) {
            check.due("no such what", x.days(5, what), -7);
        }
    }

    private void promise16() {
        HollowedByFire x = new HollowedByFire();
        check.due("nobody is needed, but one", x.fewest(0, 0), 1);
        x.work(5, 0, 9);
        x.work(0, 0, 6);
        // 23 and 7 of one man: together 30, 16, 11, 8, 7 by 1 to 5 men
        int[][] due = {{999, 1}, {30, 1}, {29, 2}, {16, 2}, {15, 3}, {11, 3}, {10, 4}, {8, 4}, {7, 5}, {6, -1}, {0, -1}};
        for (int[] d : due) {
            check.due("fewest(2, " + d[0] + ")", x.fewest(2, d[0]), d[1]);
        }
        check.due("of the first alone", x.fewest(1, 12), 2);
        x.set(3, 5);
        check.due("MEN don't matter", x.fewest(2, 30), 1);
        for (int n : new int[] {-1, 3, Hands.MIN, Hands.MAX}) {
            check.due("not so many", x.fewest(n, 5), -5);
            check.due("not so many ahead of most", x.fewest(n, -1), -5);
        }
        for (int most : new int[] {-1, 1000, Hands.MIN, Hands.MAX}) {
            check.due("so many days", x.fewest(2, most), -7);
        }
    }

    public static void main(String[] args) {
        WorkingsTest test = new WorkingsTest();
        test.promises10And11();
        test.promise12();
        test.promise13();
        test.promise14();
        test.promise15();
        test.promise16();
        test.check.end();
    }
}
