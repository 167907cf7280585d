/** Promises 17 to 20: cracks, how far it may be spread, by chances of the grain, when to stop. */
public final class SpreadTest {
    // at first the MIDDLE cracks by i INCHES, if 4 i is above 9 and k; SECTIONS 3, 5, if 9 i is above 72 and 4 k
    private final Check check = new Check("SpreadTest");

    private void promise17() {
        HollowedByFire x = new HollowedByFire();
        int[] cracks = {0, 0, 0, 16, 16, 16, 16, 16, 16, 56, 56, 56, 56};
        for (int i = 0; i <= 12; i++) {
            check.due("crack(0, " + i + ")", x.crack(0, i), cracks[i]);
        }
        check.due("nothing is changed", x.state(0, 0) + x.state(0, 1), 0);
        x.work(3, 0, 4);
        check.due("the MIDDLE was BROKEN ahead", x.crack(1, 4), 0);
        check.due("5 more", x.crack(1, 5), 40);
        x.work(4, 4, 1);
        check.due("SEWN, it cracks again", x.crack(2, 1), 16);
        check.due("0 inches", x.crack(2, 0), 0);
        x.work(3, 0, 8);
        check.due("no INCH is left", x.crack(3, 12), 0);
        HollowedByFire late = Hands.under("char 1; pull 999 * (31 < wide); stand 0;");
        late.work(3, 0, 9);
        late.work(4, 9, 9);
        late.carve(1, 0, 19);
        // 3 more inches: SECTION 7 comes to 32, SECTION 1 only to 31
        check.due("SPREAD 12 at most", late.crack(2, 12), 252);
        refusals();
    }

    private void refusals() {
        HollowedByFire x = new HollowedByFire();
        for (int n : new int[] {-1, 1, Hands.MIN, Hands.MAX}) {
            check.due("crack: n", x.crack(n, 1), -5);
            check.due("crack: n ahead of inches", x.crack(n, 13), -5);
            check.due("far: n", x.far(n), -5);
            check.due("odds: n", x.odds(n, 1, 1, 0), HollowedByFire.NO);
            check.due("stop: n", x.stop(n, 1, 1, 1), -5);
            check.due("stop: n ahead of all", x.stop(n, -1, -1, -1), -5);
        }
        for (int inches : new int[] {-1, 13, Hands.MIN, Hands.MAX}) {
            check.due("crack: inches", x.crack(0, inches), -7);
            check.due("odds: inches", x.odds(0, inches, 1, 0), HollowedByFire.NO);
        }
        for (int v : new int[] {-1, 6, Hands.MIN, Hands.MAX}) {
            check.due("odds: v", x.odds(0, 1, v, 0), HollowedByFire.NO);
            check.due("stop: v", x.stop(0, 1, 1, v), -7);
        }
        for (int part : new int[] {-1, 2, Hands.MIN, Hands.MAX}) {
            check.due("odds: part", x.odds(0, 1, 1, part), HollowedByFire.NO);
        }
        for (int inch : new int[] {-1, 1000, Hands.MIN, Hands.MAX}) {
            check.due("stop: inch", x.stop(0, inch, 1, 1), -7);
        }
        for (int cost : new int[] {-1, 10000, Hands.MIN, Hands.MAX}) {
            check.due("stop: cost", x.stop(0, 1, cost, 1), -7);
        }
    }

    private void promise18() {
        HollowedByFire x = new HollowedByFire();
        check.due("far at first", x.far(0), 2);
        x.work(3, 0, 2);
        x.work(3, 0, 2);
        check.due("none more", x.far(1), 0);
        check.due("the MIDDLE is BROKEN already", x.far(2), 4);
        HollowedByFire strong = Hands.under("char 1; pull 0; stand 999;");
        check.due("all 12", strong.far(0), 12);
        HollowedByFire last = Hands.under("char 1; pull (wide = 68) * 999; stand 0;");
        check.due("just the twelfth is too much", last.far(0), 11);
        strong.work(3, 0, 5);
        strong.work(3, 0, 9);
        check.due("the other 7", strong.far(1), 7);
        check.due("none is left", strong.far(2), 0);
    }

    private void odds(HollowedByFire x, int n, int inches, int v, long above, long below) {
        String call = "odds(" + n + ", " + inches + ", " + v + ")";
        check.due(call + " above", x.odds(n, inches, v, 0), above);
        check.due(call + " below", x.odds(n, inches, v, 1), below);
    }

    private void promise19() {
        HollowedByFire x = new HollowedByFire();
        odds(x, 0, 0, 0, 1, 1);
        odds(x, 0, 0, 5, 1, 1);
        odds(x, 0, 2, 0, 1, 1);
        odds(x, 0, 3, 0, 0, 1);
        odds(x, 0, 1, 5, 1, 1);
        odds(x, 0, 2, 1, 1, 1);
        odds(x, 0, 2, 2, 4, 5);
        odds(x, 0, 2, 3, 5, 7);
        odds(x, 0, 2, 4, 2, 3);
        odds(x, 0, 2, 5, 7, 11);
        odds(x, 0, 3, 5, 3, 11);
        odds(x, 0, 3, 4, 2, 9);
        odds(x, 0, 3, 3, 1, 7);
        odds(x, 0, 3, 2, 0, 1);
        odds(x, 0, 4, 5, 0, 1);
        check.due("GRAIN is as it was", x.carved(4, 3), 30);
        x.work(3, 0, 2);
        x.work(3, 0, 2);
        // the HULL is as it is; the chance is of what the INCHES do
        odds(x, 1, 1, 5, 3, 11);
        odds(x, 1, 0, 5, 1, 1);
        // SECTIONS 3, 5 are next, by 9 inches in all if 81 is above 72 and 4 k
        odds(x, 2, 5, 5, 3, 11);
        odds(x, 2, 5, 2, 0, 1);
        odds(x, 2, 4, 4, 5, 9);
        HollowedByFire thin = Hands.under("char 1; pull 0; stand 0;");
        Hands.carveAll(thin, 3, 1);
        // where GRAIN is below 0, nothing is needed to break
        odds(thin, 0, 1, 5, 7, 11);
        odds(thin, 0, 0, 5, 1, 1);
    }

    private void promise20() {
        HollowedByFire x = new HollowedByFire();
        // by 11 chances 11, 7, 3 of them bring no CRACKS by 1, 2, 3 inches
        check.due("cracks cost nothing", x.stop(0, 100, 0, 5), 2);
        check.due("a little less", x.stop(0, 100, 74, 5), 2);
        check.due("as much: the least", x.stop(0, 100, 75, 5), 1);
        check.due("more", x.stop(0, 100, 76, 5), 1);
        check.due("an INCH is worth nothing", x.stop(0, 0, 0, 5), 0);
        check.due("the dearest", x.stop(0, 999, 9999, 5), 1);
        check.due("no chance", x.stop(0, 1, 9999, 0), 2);
        x.work(3, 0, 2);
        check.due("3 of 11 chances, no cost", x.stop(1, 8, 0, 5), 1);
        check.due("3 of 11 chances, 24 by 24", x.stop(1, 8, 3, 5), 0);
        check.due("3 of 11 chances, 24 by 16", x.stop(1, 8, 2, 5), 1);
        HollowedByFire strong = Hands.under("char 1; pull 0; stand 999;");
        check.due("all 12", strong.stop(0, 1, 1, 5), 12);
        strong.work(3, 0, 7);
        check.due("the other 5", strong.stop(1, 999, 1, 5), 5);
        goingOn();
    }

    private void goingOn() {
        // just the first INCH is hard on the MIDDLE: by one chance of three, k = -1, it cracks there
        HollowedByFire x = Hands.under("char 1; pull (wide = 24) * 30; stand 0;");
        odds(x, 0, 1, 1, 2, 3);
        odds(x, 0, 12, 1, 2, 3);
        check.due("24 by 23", x.stop(0, 1, 23, 1), 12);
        check.due("24 by 24 is no more than nothing", x.stop(0, 1, 24, 1), 0);
        // by k = -1 three SECTIONS crack at once
        HollowedByFire three = Hands.under("char 1; pull (wide = 24) * 30 + (wide = 23) * 39; stand 0;");
        odds(three, 0, 1, 1, 2, 3);
        check.due("CRACKS cost once", three.stop(0, 1, 23, 1), 12);
        Hands.carveAll(three, 3, 29);
        check.due("three SECTIONS", three.crack(0, 1), 56);
    }

    public static void main(String[] args) {
        SpreadTest test = new SpreadTest();
        test.promise17();
        test.promise18();
        test.promise19();
        test.promise20();
        test.check.end();
    }
}
