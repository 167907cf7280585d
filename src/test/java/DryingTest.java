/** Promises 39 to 43: drying, hulls drawn by a seed, the image. */
public final class DryingTest {
    private final Check check = new Check("DryingTest");

    private void promise39() {
        // 3 times the days is above 240
        HollowedByFire x = new HollowedByFire();
        check.due("80 days", x.dries(0, 80), 0);
        check.due("81 days", x.dries(0, 81), 511);
        x.carve(4, 4, 1);
        check.due("a KNOT: 73 days", x.dries(0, 73), 0);
        check.due("a KNOT: 74 days", x.dries(0, 74), 16);
        x.carve(7, 3, 10);
        check.due("less GRAIN: 26 days", x.dries(0, 26), 0);
        check.due("less GRAIN: 27 days", x.dries(0, 27), 128);
        x.set(4, 9);
        check.due("SEASON 9: 2 days", x.dries(0, 2), 0);
        check.due("SEASON 9: 3 days", x.dries(0, 3), 128);
        x.set(2, 9);
        check.due("SAP 9: 1 day", x.dries(0, 1), 128);
        x.work(1, 9, 3);
        x.work(1, 2, 9);
        // CHAR is 1 now: 5 THICK; 150 and, by the KNOT, 130
        check.due("less THICK: 1 day", x.dries(1, 1), 128);
        check.due("less THICK: 2 days", x.dries(1, 2), 511);
        check.due("but one that is burnt through", x.dries(2, 2), 507);
        HollowedByFire thin = new HollowedByFire();
        Hands.carveAll(thin, 1, 1);
        Hands.carveAll(thin, 3, 20);
        thin.carve(3, 4, 1);
        check.due("0 is above 0 no more", thin.dries(0, 0), 0);
        thin.carve(3, 3, 19);
        check.due("0 is above -1", thin.dries(0, 0), 8);
        thin.set(2, 0);
        check.due("without SAP, too", thin.dries(0, 99), 8);
        HollowedByFire broken = Hands.under("char 1; pull 999 * (wide = 24); stand 1;");
        broken.work(3, 0, 1);
        broken.work(4, 4, 1);
        check.due("one that is BROKEN, though THICK", broken.dries(1, 99), 495);
        check.due("SEWN it dries", broken.dries(2, 99), 511);
        for (int n : new int[] {-1, 3, Hands.MIN, Hands.MAX}) {
            check.due("n", broken.dries(n, 1), -5);
            check.due("n ahead of days", broken.dries(n, 100), -5);
        }
        for (int days : new int[] {-1, 100, Hands.MIN, Hands.MAX}) {
            check.due("days", broken.dries(0, days), -7);
        }
    }

    private void promise40() {
        HollowedByFire x = new HollowedByFire();
        check.due("80 days are no harm", x.shade(0), 80);
        Hands.carveAll(x, 3, 37);
        check.due("98 days are none", x.shade(0), 98);
        Hands.carveAll(x, 3, 38);
        check.due("304 by 3 is too long", x.shade(0), -1);
        x.carve(8, 3, 1);
        check.due("one SECTION alone", x.shade(0), 2);
        x.carve(8, 4, 1);
        check.due("it cracks at once", x.shade(0), 0);
        x.work(1, 8, 9);
        check.due("burnt through it doesn't", x.shade(1), -1);
        x.set(2, 0);
        x.carve(8, 4, 0);
        check.due("without SAP none does", x.shade(0), -1);
        for (int n : new int[] {-1, 2, Hands.MIN, Hands.MAX}) {
            check.due("n", x.shade(n), -5);
        }
    }

    private void thick(HollowedByFire x, int n, int seed, int... want) {
        for (int s = 0; s < 9; s++) {
            check.due("drawn(" + n + ", " + s + ", " + seed + ", 0)", x.drawn(n, s, seed, 0), want[s]);
        }
    }

    private void promise41() {
        // by SEED 0 CHAR is 0 -1 -1 0 0 1 1 1 1 1 more, by LOTS 48271, 182605794, 1291394886, 1914720637, ..
        HollowedByFire x = new HollowedByFire();
        x.work(1, 9, 1);
        thick(x, 0, 0, 8, 8, 8, 8, 8, 8, 8, 8, 8);
        thick(x, 1, 0, 6, 7, 7, 6, 6, 5, 5, 5, 5);
        // the second LOT of SEED 48270 is the third of SEED 0
        thick(x, 1, 48270, 7, 7, 6, 6, 5, 5, 5, 5, 5);
        check.due("none is BROKEN", x.drawn(1, 0, 0, 1), 0);
        check.due("not drawn it is as ever", x.hull(1, 1, 1), 6);
        HollowedByFire through = new HollowedByFire();
        through.work(1, 4, 9);
        through.work(1, 3, 1);
        // 6, 5, 4, 2, 0 is no more than 5 hours: the next LOT is SECTION 3's
        thick(through, 2, 0, 8, 8, 8, 5, 0, 8, 8, 8, 8);
        check.due("BROKEN", through.drawn(2, 0, 0, 1), 16);
        HollowedByFire none = Hands.under("char 0; pull 0; stand 0;");
        none.work(1, 9, 1);
        thick(none, 1, 0, 8, 8, 8, 8, 8, 7, 7, 7, 7);
        HollowedByFire most = Hands.under("char 9; pull 0; stand 0;");
        Hands.carveAll(most, 1, 20);
        most.work(1, 9, 1);
        thick(most, 1, 0, 11, 12, 12, 11, 11, 10, 10, 10, 10);
        HollowedByFire pegs = new HollowedByFire();
        pegs.work(2, 1, 9);
        pegs.work(2, 7, 9);
        // 6, 5, 4, 2; then the LOTS are 0 1 1: 6, 3, 0
        thick(pegs, 2, 0, 8, 2, 8, 8, 8, 8, 8, 0, 8);
        check.due("a LOT more is below the PEG", pegs.drawn(2, 0, 0, 1), 128);
        check.due("BROKEN by an INCH, too", spread().drawn(1, 0, 5, 1), 16);
        refusalsOfDrawn(x);
    }

    private static HollowedByFire spread() {
        HollowedByFire x = new HollowedByFire();
        x.work(3, 0, 3);
        return x;
    }

    private void refusalsOfDrawn(HollowedByFire x) {
        for (int n : new int[] {-1, 2, Hands.MIN, Hands.MAX}) {
            check.due("n", x.drawn(n, 0, 0, 0), -5);
            check.due("n ahead of all", x.drawn(n, 9, -1, 2), -5);
        }
        for (int s : new int[] {-1, 9, Hands.MIN, Hands.MAX}) {
            check.due("no such SECTION", x.drawn(0, s, 0, 0), -7);
            check.due("no such SECTION, by what 1, too", x.drawn(0, s, 0, 1), -7);
        }
        for (int seed : new int[] {-1, 100000, Hands.MIN, Hands.MAX}) {
            check.due("no such SEED", x.drawn(0, 0, seed, 0), -7);
        }
        for (int what : new int[] {-1, 2, Hands.MIN, Hands.MAX}) {
            check.due("no such what", x.drawn(0, 0, 0, what), -7);
        }
        // the LOT of SEED 99999 is 532132706, by 3 it leaves 2
        check.due("the last SEED", x.drawn(1, 0, 99999, 0), 5);
    }

    private static int tree(HollowedByFire x) {
        Hands.sheet(x, 0, 1, 1, 1, 1, 1);
        return x.tree(50, 0, 0, 0);
    }

    private void promises42And43() {
        HollowedByFire x = new HollowedByFire();
        check.due("there is no IMAGE", x.back(), -3);
        tree(x);
        tree(x);
        x.bore(1, 3);
        x.work(0, 0, 0);
        Hands.text(x, "char 1; pull 2; stand 3;");
        Hands.text(x, "char 4; pull 5; stand 6;");
        x.force(1);
        for (int s = 0; s < 9; s++) {
            for (int what = 0; what < 6; what++) {
                x.carve(s, what, what == 4 ? s % 2 : s + what + 1);
            }
        }
        for (int what = 0; what < 5; what++) {
            x.set(what, what + 1);
        }
        check.due("image", x.image(), 1);
        check.due("as it was", x.carved(8, 3), 12);
        changeAll(x);
        check.due("back: WORKINGS stay", x.back(), 3);
        asKept(x);
        check.due("BORED of one that came since stays", x.bore(2, -1), 4);
        changeAll(x);
        check.due("back again", x.back(), 5);
        asKept(x);
        x.set(0, 9);
        x.work(0, 0, 0);
        check.due("another image", x.image(), 6);
        x.set(0, 0);
        x.forget();
        check.due("back to that", x.back(), 5);
        check.due("HEAT of that", x.count(0), 9);
        check.due("TEXTS stay", x.count(7), 3);
        check.due("TREES stay", x.count(6), 3);
        early();
    }

    private void changeAll(HollowedByFire x) {
        for (int s = 0; s < 9; s++) {
            for (int what = 0; what < 6; what++) {
                x.carve(s, what, what == 4 ? 1 - s % 2 : 20 - s);
            }
        }
        for (int what = 0; what < 5; what++) {
            x.set(what, 5 - what);
        }
        x.force(2);
        x.bore(0, 2);
        x.bore(1, -1);
        if (x.count(6) < 3) {
            tree(x);
        }
        x.bore(2, 4);
        x.work(1, 1, 1);
        x.work(1, 1, 1);
        x.sheet(3, 2, 5);
    }

    private void asKept(HollowedByFire x) {
        for (int s = 0; s < 9; s++) {
            for (int what = 0; what < 6; what++) {
                check.due("carved as kept", x.carved(s, what), what == 4 ? s % 2 : s + what + 1);
            }
        }
        for (int what = 0; what < 5; what++) {
            check.due("set as kept", x.count(what), what + 1);
        }
        check.due("THE LAW as kept", x.count(8), 1);
        check.due("not BORED, as kept", x.bore(0, 2), -1);
        check.due("BORED, as kept", x.bore(1, 0), 3);
        check.due("SHEETS stay", x.cell(3, 4, 0), 1);
    }

    private void early() {
        HollowedByFire x = new HollowedByFire();
        check.due("an IMAGE of a new object", x.image(), 0);
        x.carve(4, 0, 21);
        x.set(3, 5);
        check.due("back", x.back(), 0);
        check.due("carved", x.carved(4, 0), 20);
        check.due("MEN", x.count(3), 2);
    }

    public static void main(String[] args) {
        DryingTest test = new DryingTest();
        test.promise39();
        test.promise40();
        test.promise41();
        test.promises42And43();
        test.check.end();
    }
}
