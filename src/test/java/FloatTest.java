/** Promises 28 to 30: how a hull floats. */
public final class FloatTest {
    private final Check check = new Check("FloatTest");

    private void floats(HollowedByFire x, int n, int load, int draught, int free, int steady) {
        check.due("DRAUGHT by " + load, x.floats(n, load, 0), draught);
        check.due("HIGH less DRAUGHT by " + load, x.floats(n, load, 1), free);
        check.due("steady by " + load, x.floats(n, load, 2), steady);
    }

    private void promise28() {
        // it weighs 720, and is 180 WIDE in all
        HollowedByFire x = new HollowedByFire();
        floats(x, 0, 0, 4, 6, 720);
        floats(x, 0, 1, 5, 5, 600);
        floats(x, 0, 180, 5, 5, 600);
        floats(x, 0, 181, 6, 4, 514);
        floats(x, 0, 1080, 10, 0, 327);
        floats(x, 0, 1081, -1, -1, -1);
        floats(x, 0, 9999, -1, -1, -1);
        deep();
        x.carve(7, 2, 4);
        // 8 times 12 by 4 less
        check.due("the least HIGH", x.floats(0, 24, 1), 0);
        check.due("it sinks there", x.floats(0, 25, 1), -1);
        x.work(1, 3, 9);
        floats(x, 1, 0, -1, -1, -1);
        x.work(5, 7, 9);
        check.due("BROKEN it sinks", x.floats(2, 0, 0), -1);
        grown();
        refusals();
    }

    private void deep() {
        // it weighs 1080; 3600 by 13 is 276 and 12 more
        HollowedByFire x = new HollowedByFire();
        Hands.carveAll(x, 2, 20);
        floats(x, 0, 1080, 12, 8, 276);
        // three SECTIONS of 43 by 4, cut: 10 each; six of 320 by 4
        HollowedByFire y = new HollowedByFire();
        for (int s = 0; s < 9; s += 3) {
            y.carve(s, 0, 23);
            y.carve(s, 1, 1);
        }
        check.due("it weighs 510", y.bears(0, 0), 1890 - 510);
        for (int s = 0; s < 9; s++) {
            HollowedByFire low = new HollowedByFire();
            low.carve(s, 2, 5);
            // 720 less 20
            check.due("the least HIGH is at " + s, low.floats(0, 0, 1), 1);
            check.due("the least HIGH is at " + s, low.bears(0, 0), 180 * 5 - 700);
        }
    }

    private void grown() {
        HollowedByFire x = Hands.under("char 1; pull 0; stand 9;");
        x.work(1, 9, 1);
        x.work(3, 0, 2);
        x.work(5, 9, 5);
        // THICK 7; WIDE 20 22 24 26 28 26 24 22 20, HIGH 16 15 .. 15 16: 91 91 94 98 101 98 94 91 91
        check.due("it weighs 849", x.bears(3, 0), 212 * 15 - 849);
        floats(x, 3, 0, 5, 10, 842);
        floats(x, 3, 211, 5, 10, 842);
        floats(x, 3, 212, 6, 9, 722);
        check.due("849 and 211 are 5 deep", x.bar(3, 211, 11), 1);
        check.due("849 and 212 are 6 deep", x.bar(3, 212, 11), 0);
    }

    private void refusals() {
        HollowedByFire x = new HollowedByFire();
        for (int n : new int[] {-1, 1, Hands.MIN, Hands.MAX}) {
            check.due("floats: n", x.floats(n, 0, 0), -5);
            check.due("floats: n ahead of all", x.floats(n, -1, 3), -5);
            check.due("bears: n", x.bears(n, 0), -5);
            check.due("bears: n ahead of above", x.bears(n, 100), -5);
            check.due("bar: n", x.bar(n, 0, 0), -5);
            check.due("bar: n ahead of all", x.bar(n, -1, -1), -5);
        }
        for (int load : new int[] {-1, 10000, Hands.MIN, Hands.MAX}) {
            check.due("floats: load", x.floats(0, load, 0), -7);
            check.due("bar: load", x.bar(0, load, 0), -7);
        }
        for (int what : new int[] {-1, 3, Hands.MIN, Hands.MAX}) {
            check.due("floats: what", x.floats(0, 0, what), -7);
            check.due("floats: what ahead of -1", x.floats(0, 9999, what), -7);
        }
        for (int above : new int[] {-1, 100, Hands.MIN, Hands.MAX}) {
            check.due("bears: above", x.bears(0, above), -7);
        }
        for (int wave : new int[] {-1, 1000, Hands.MIN, Hands.MAX}) {
            check.due("bar: wave", x.bar(0, 0, wave), -7);
        }
    }

    private void promise29() {
        HollowedByFire x = new HollowedByFire();
        check.due("bears(0, 0)", x.bears(0, 0), 1080);
        check.due("bears(0, 1)", x.bears(0, 1), 900);
        check.due("bears(0, 6)", x.bears(0, 6), 0);
        check.due("bears(0, 7)", x.bears(0, 7), -1);
        check.due("bears(0, 99)", x.bears(0, 99), -1);
        x.carve(0, 2, 9);
        // 4 less weight
        check.due("the least HIGH", x.bears(0, 0), 904);
        x.carve(0, 2, 10);
        x.carve(0, 1, 7);
        x.carve(1, 1, 7);
        x.carve(0, 2, 11);
        x.carve(1, 2, 11);
        // seven of 80; two of 7 times 42 by 4, each cut to 73
        check.due("the weight is cut", x.bears(0, 0), 1800 - 706);
        x.carve(2, 2, 11);
        x.carve(2, 1, 1);
        check.due("1 THICK", x.bears(0, 0), 1800 - 636);
        x.work(3, 0, 3);
        x.work(3, 0, 9);
        x.work(4, 9, 9);
        check.due("a BROKEN one", x.bears(1, 0), -1);
        check.due("BROKEN ones", x.bears(2, 0), -1);
        // 372 WIDE, it weighs 94 94 16 152 176 152 128 104 104
        check.due("SEWN", x.bears(3, 0), 3720 - 1020);
        cutAtEach();
    }

    private void cutAtEach() {
        HollowedByFire x = new HollowedByFire();
        x.work(1, 9, 1);
        x.work(3, 0, 1);
        // THICK 6; WIDE 20 21 22 23 24 23 22 21 20: 60 61 63 64 66 64 63 61 60, not 565
        check.due("each SECTION is cut", x.bears(2, 0), 1960 - 562);
        for (int s = 0; s < 9; s++) {
            HollowedByFire y = new HollowedByFire();
            y.carve(s, 1, 1);
            y.carve(s, 0, 23);
            // 43 by 4 is 10 and 3 more, and eight are 80 each
            check.due("SECTION " + s + " is cut", y.bears(0, 0), 1830 - 650);
        }
    }

    private void promise30() {
        HollowedByFire x = new HollowedByFire();
        check.due("the greatest wave", x.bar(0, 0, 999), 0);
        check.due("the greatest load", x.bar(0, 9999, 0), 0);
        check.due("6 above the water", x.bar(0, 0, 6), 1);
        check.due("a wave of 7", x.bar(0, 0, 7), 0);
        check.due("by a load of 1", x.bar(0, 1, 6), 0);
        check.due("just not sinking", x.bar(0, 1080, 0), 1);
        check.due("sinking", x.bar(0, 1081, 0), 0);
        Hands.carveAll(x, 2, 30);
        x.carve(4, 2, 10);
        // 8 times 8 times 80, and 8 times 40, by 4: 1360, that is 8 deep
        check.due("only the ends count", x.bar(0, 0, 22), 1);
        check.due("the ends less a wave", x.bar(0, 0, 23), 0);
        x.carve(8, 2, 25);
        check.due("the lesser end", x.bar(0, 0, 17), 1);
        check.due("the lesser end and a wave", x.bar(0, 0, 18), 0);
        x.carve(0, 2, 20);
        check.due("the other end", x.bar(0, 0, 12), 1);
        check.due("the other end and a wave", x.bar(0, 0, 13), 0);
        check.due("it sinks in the MIDDLE", x.bar(0, 1000, 0), 0);
        x.work(1, 4, 9);
        check.due("BROKEN", x.bar(1, 0, 0), 0);
        check.due("whole ahead of that", x.bar(0, 0, 0), 1);
    }

    public static void main(String[] args) {
        FloatTest test = new FloatTest();
        test.promise28();
        test.promise29();
        test.promise30();
        test.check.end();
    }
}
