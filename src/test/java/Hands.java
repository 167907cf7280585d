/** What many tests do ahead of what they look at. */
final class Hands {
    static final int MIN = Integer.MIN_VALUE, MAX = Integer.MAX_VALUE;

    private Hands() {
    }

    /** A SHEET becomes a row of ints with these numbers. */
    static void sheet(HollowedByFire x, int s, int... numbers) {
        x.sheet(s, 2, numbers.length);
        for (int i = 0; i < numbers.length; i++) {
            x.cell(s, i, numbers[i]);
        }
    }

    static void feed(HollowedByFire x, String bytes) {
        for (int from = 0; from < bytes.length(); from += 8) {
            int to = Math.min(bytes.length(), from + 8);
            long w = 0;
            for (int i = from; i < to; i++) {
                w = w << 8 | bytes.charAt(i);
            }
            x.feed(w, to - from);
        }
    }

    static int text(HollowedByFire x, String bytes) {
        feed(x, bytes);
        return x.text();
    }

    /** A new object whose LAW is this TEXT. */
    static HollowedByFire under(String law) {
        HollowedByFire x = new HollowedByFire();
        x.force(text(x, law));
        return x;
    }

    /** What a SECTION of all HULLS is, one number of it by another: for a look at all nine. */
    static String row(HollowedByFire x, int n, int what) {
        StringBuilder all = new StringBuilder();
        for (int s = 0; s < 9; s++) {
            all.append(s == 0 ? "" : " ").append(x.hull(n, s, what));
        }
        return all.toString();
    }

    static void carveAll(HollowedByFire x, int what, int v) {
        for (int s = 0; s < 9; s++) {
            x.carve(s, what, v);
        }
    }
}
