/** The edges of promises 1 to 5 and 10 to 16, and of what Terms tells of the hull and of WORKINGS. */
public final class EdgesHullTest {
    private final Check check = new Check("EdgesHullTest");
    private final Script script = new Script(check);

    private void run(String title, String... lines) {
        script.run(title, String.join("\n", lines));
    }

    // ---- promises 1 to 5

    private void newObject() {
        StringBuilder lines = new StringBuilder();
        int[] atFirst = {20, 8, 10, 30, 0, 2};
        for (int s = 0; s < 9; s++) {
            for (int what = 0; what < 6; what++) {
                lines.append("carved(" + s + ", " + what + ") " + atFirst[what] + "\n");
            }
        }
        run("1: a new object", lines.toString(), """
            count(0) 5
            count(1) 0
            count(2) 3
            count(3) 2
            count(4) 0
            count(5) 0
            count(6) 0
            count(7) 1
            count(8) 0
            count(9) 0
            forget() -3
            back() -3
            which() -1
            hole() -1
            workTold(0, 0) -5
            bore(0, -1) -5
            fell(0, 0, 0) -5
            worth(0, 0) NO
            boring(0, 0) NO
            taken(0, 6) -11
            taken(5, 6) -11
            taken(6, 0) -11
            taken(15, 0) -11
            cell(0, 0, 0) -11
            cell(1, 0, 0) -11
            cell(2, 0, 0) -11
            cell(3, 0, 0) -11
            force(0) 0
            force(1) -2
            hull(0, 0, 3) 0
            hull(1, 0, 3) -5
            state(0, 0) 0
            state(1, 0) -5
            days(0, 0) 0
            days(1, 0) -5
            image() 0
            back() 0
            """);
    }

    private void noWorkings() {
        run("1: no WORKINGS", """
            hull(0, 4, 0) 20
            state(0, 0) 0
            state(0, 1) 0
            state(0, 2) -1
            days(0, 0) 0
            days(0, 1) -1
            fewest(0, 0) 1
            crack(0, 12) 56
            far(0) 2
            odds(0, 2, 5, 0) 7
            odds(0, 2, 5, 1) 11
            stop(0, 1, 0, 0) 2
            judge(0, 0) -11
            floats(0, 0, 0) 4
            bears(0, 0) 1080
            bar(0, 0, 6) 1
            dries(0, 80) 0
            shade(0) 80
            drawn(0, 4, 0, 0) 8
            drawn(0, 4, 0, 1) 0
            taken(6, 0) -11
            forget() -3
            """);
    }

    private void carving() {
        int[] least = {1, 1, 1, 1, 0, 0};
        int[] most = {99, 20, 99, 99, 1, 20};
        int[] atFirst = {20, 8, 10, 30, 0, 2};
        for (int what = 0; what < 6; what++) {
            for (int s = 0; s < 9; s += 4) {
                String of = "(" + s + ", " + what;
                run("2, 3: what " + what, "carve" + of + ", " + (least[what] - 1) + ") -7", "carve" + of + ", " + (most[what] + 1) + ") -7",
                    "carve" + of + ", MIN) -7", "carve" + of + ", MAX) -7", "carved" + of + ") " + atFirst[what],
                    "carve" + of + ", " + least[what] + ") " + atFirst[what], "carved" + of + ") " + least[what],
                    "carve" + of + ", " + (least[what] - 1) + ") -7", "carved" + of + ") " + least[what],
                    "carve" + of + ", " + most[what] + ") " + least[what], "carved" + of + ") " + most[what],
                    "carve" + of + ", " + (most[what] + 1) + ") -7", "carved" + of + ") " + most[what],
                    "carve" + of + ", " + most[what] + ") " + most[what]);
            }
        }
        run("2, 3: SECTIONS and what", """
            carve(-1, 0, 5) -5
            carve(9, 0, 5) -5
            carve(9, 6, 100) -5
            carve(-1, -1, 0) -5
            carve(0, -1, 5) -7
            carve(0, 6, 5) -7
            carve(8, 6, 100) -7
            carved(-1, 0) -5
            carved(9, 0) -5
            carved(9, 6) -5
            carved(-1, -1) -5
            carved(0, -1) -7
            carved(8, 6) -7
            // each number has its own place
            carve(3, 0, 33) 20
            carve(4, 0, 44) 20
            carve(4, 2, 42) 10
            carve(5, 1, 5) 8
            carved(3, 0) 33
            carved(4, 0) 44
            carved(4, 1) 8
            carved(4, 2) 42
            carved(5, 0) 20
            carved(5, 1) 5
            """);
    }

    private void setting() {
        int[] atFirst = {5, 0, 3, 2, 0};
        for (int what = 0; what < 5; what++) {
            int least = what == 3 ? 1 : 0;
            int most = what == 3 ? 5 : 9;
            String set = "set(" + what + ", ";
            String is = "count(" + what + ") ";
            run("4, 5: what " + what, set + (least - 1) + ") -2", set + (most + 1) + ") -2", set + "MIN) -2", set + "MAX) -2",
                is + atFirst[what], set + least + ") " + atFirst[what], is + least, set + (least - 1) + ") -2", is + least,
                set + most + ") " + least, is + most, set + (most + 1) + ") -2", is + most, set + most + ") " + most);
        }
        run("4, 5: what there is", """
            set(-1, 1) -1
            set(5, 1) -1
            set(-1, -1) -1
            set(5, 10) -1
            set(MIN, 1) -1
            set(MAX, MAX) -1
            count(-1) -2
            count(10) -2
            count(MIN) -2
            count(MAX) -2
            // each has its own place
            set(0, 1) 5
            set(1, 2) 0
            set(2, 4) 3
            set(3, 3) 2
            set(4, 5) 0
            count(0) 1
            count(1) 2
            count(2) 4
            count(3) 3
            count(4) 5
            """);
    }

    // ---- promises 10 to 12

    private void works() {
        run("10: the edges of its numbers", """
            work(-1, 0, 0) -2
            work(6, 0, 0) -2
            work(0, -1, 0) -2
            work(0, 10, 0) -2
            work(0, 0, -1) -2
            work(0, 0, 10) -2
            work(MIN, 0, 0) -2
            work(0, MAX, 0) -2
            work(0, 0, MIN) -2
            count(5) 0
            work(0, 0, 0) 0
            work(5, 9, 9) 1
            workTold(0, 0) 0
            workTold(0, 1) 0
            workTold(0, 2) 0
            workTold(1, 0) 5
            workTold(1, 1) 9
            workTold(1, 2) 9
            workTold(-1, 0) -5
            workTold(2, 0) -5
            workTold(2, 4) -5
            workTold(MIN, 0) -5
            workTold(MAX, -1) -5
            workTold(1, -1) -7
            workTold(1, 4) -7
            workTold(0, 3) 1
            // 23 days of one man
            workTold(1, 3) 12
            """);
        run("10, 11: WORKINGS are full, and none are left", """
            forget() -3
            work(0, 0, 0) 0
            work(1, 1, 1) 1
            work(2, 2, 2) 2
            work(3, 3, 3) 3
            work(4, 4, 4) 4
            work(5, 5, 5) 5
            work(0, 6, 6) 6
            work(1, 7, 7) 7
            work(2, 8, 8) 8
            work(3, 9, 9) 9
            work(0, 0, 0) -4
            work(5, 9, 9) -4
            work(6, 0, 0) -2
            work(0, 10, 0) -2
            work(0, 0, 10) -2
            count(5) 10
            workTold(9, 2) 9
            workTold(10, 0) -5
            hull(10, 0, 0) 20
            hull(11, 0, 0) -5
            forget() 9
            count(5) 9
            workTold(9, 0) -5
            hull(10, 0, 0) -5
            work(4, 3, 2) 9
            workTold(9, 0) 4
            work(4, 3, 2) -4
            forget() 9
            forget() 8
            forget() 7
            forget() 6
            forget() 5
            forget() 4
            forget() 3
            forget() 2
            forget() 1
            forget() 0
            forget() -3
            count(5) 0
            workTold(0, 0) -5
            work(2, 3, 4) 0
            """);
    }

    /** DAYS of one man by each KIND: at one SECTION, at all; of all MEN they are cut up. */
    private void daysOfKinds() {
        int[][] one = {{1, 1, 3, 1, 2, 5}, {2, 2, 4, 2, 4, 7}, {10, 10, 12, 10, 20, 23}};
        int[][] all = {{1, 2, 4, 1, 2, 5}, {2, 4, 6, 2, 4, 7}, {10, 20, 22, 10, 20, 23}};
        int[] mores = {0, 1, 9};
        for (int i = 0; i < 3; i++) {
            for (int kind = 0; kind < 6; kind++) {
                StringBuilder lines = new StringBuilder();
                lines.append("work(" + kind + ", 0, " + mores[i] + ") 0\nwork(" + kind + ", 8, " + mores[i] + ") 1\n");
                lines.append("work(" + kind + ", 9, " + mores[i] + ") 2\n");
                for (int men = 1; men <= 5; men++) {
                    int ofOne = one[i][kind] / men + (one[i][kind] % men == 0 ? 0 : 1);
                    int ofAll = all[i][kind] / men + (all[i][kind] % men == 0 ? 0 : 1);
                    lines.append("set(3, " + men + ")\nworkTold(0, 3) " + ofOne + "\nworkTold(1, 3) " + ofOne);
                    lines.append("\nworkTold(2, 3) " + ofAll + "\ndays(3, 0) " + (2 * ofOne + ofAll) + "\n");
                    lines.append("days(3, 1) " + (ofAll > ofOne ? 2 : 0) + "\ndays(2, 1) 0\n");
                }
                run("12, 15: KIND " + kind + " by " + mores[i], lines.toString());
            }
        }
    }

    // ---- promise 13

    private void fire() {
        run("13: THICK is held at 0", """
            text 1 char 4; pull 0; stand 0;
            force(1) 0
            carve(1, 1, 9) 8
            carve(2, 1, 7) 8
            carve(3, 1, 1) 8
            carve(4, 1, 20) 8
            work(1, 9, 0) 0
            work(1, 9, 1) 1
            work(1, 9, 1) 2
            work(1, 9, 9) 3
            hull(1, 0, 1) 8
            state(1, 0) 0
            hull(2, 0, 1) 4
            hull(2, 1, 1) 5
            hull(2, 2, 1) 3
            // 1 less 4
            hull(2, 3, 1) 0
            hull(2, 3, 3) 1
            hull(2, 4, 1) 16
            state(2, 0) 8
            // 4 less 4, 5 less 4, 3 less 4
            hull(3, 0, 1) 0
            hull(3, 0, 3) 1
            hull(3, 1, 1) 1
            hull(3, 1, 3) 0
            hull(3, 2, 1) 0
            hull(3, 2, 3) 1
            hull(3, 4, 1) 12
            state(3, 0) 493
            hull(4, 1, 1) 0
            hull(4, 4, 1) 0
            state(4, 0) 511
            """);
        run("13: CHAR 0 and 9", """
            text 1 char 0; pull 0; stand 0;
            text 2 char 9; pull 0; stand 0;
            work(1, 0, 9) 0
            force(1) 0
            hull(1, 0, 1) 8
            force(2) 1
            hull(1, 0, 1) 0
            carve(0, 1, 20) 8
            hull(1, 0, 1) 0
            forget() 0
            work(1, 0, 2) 0
            hull(1, 0, 1) 2
            hull(1, 0, 3) 0
            hull(1, 1, 1) 8
            """);
        run("13: PEGS", """
            // THICK as the PEG, one more, two more; no PEG, a PEG above
            carve(0, 5, 8) 2
            carve(1, 5, 7) 2
            carve(2, 5, 6) 2
            carve(3, 5, 0) 2
            carve(4, 5, 20) 2
            carve(5, 5, 1) 2
            carve(5, 1, 1) 8
            carve(6, 5, 0) 2
            carve(6, 1, 1) 8
            work(2, 9, 0) 0
            work(2, 9, 1) 1
            work(2, 9, 9) 2
            work(2, 9, 9) 3
            state(1, 0) 0
            hull(1, 3, 1) 8
            hull(2, 0, 1) 8
            hull(2, 1, 1) 6
            hull(2, 2, 1) 6
            hull(2, 3, 1) 6
            hull(2, 4, 1) 8
            hull(2, 5, 1) 1
            hull(2, 6, 1) 0
            hull(2, 7, 1) 6
            hull(3, 1, 1) 6
            hull(3, 2, 1) 6
            hull(3, 3, 1) 0
            hull(3, 5, 1) 1
            hull(3, 7, 1) 2
            state(3, 0) 72
            hull(4, 7, 1) 2
            state(4, 0) 72
            """);
    }

    private void edgesOfHull() {
        run("13: the edges of its numbers", """
            hull(-1, 0, 0) -5
            hull(1, 0, 0) -5
            hull(1, 9, 4) -5
            hull(0, -1, 0) -7
            hull(0, 9, 0) -7
            hull(0, 0, -1) -7
            hull(0, 0, 4) -7
            hull(0, 0, 0) 20
            hull(0, 8, 3) 0
            // it begins as it is carved now, of whatever size
            work(0, 9, 9) 0
            carve(0, 0, 1) 20
            carve(8, 0, 99) 20
            carve(0, 1, 1) 8
            carve(8, 1, 20) 8
            carve(0, 2, 1) 10
            carve(8, 2, 99) 10
            hull(1, 0, 0) 1
            hull(1, 8, 0) 99
            hull(1, 0, 1) 1
            hull(1, 8, 1) 20
            hull(1, 0, 2) 1
            hull(1, 8, 2) 99
            hull(1, 0, 3) 0
            hull(2, 0, 0) -5
            """);
        run("13: an INCH", """
            text 1 char 1; pull 0; stand 999;
            force(1) 0
            all 0 99
            all 2 99
            work(3, 0, 0) 0
            work(3, 1, 1) 1
            work(3, 2, 1) 2
            work(3, 9, 9) 3
            work(3, 9, 1) 4
            work(3, 9, 9) 5
            state(1, 1) 0
            hull(1, 4, 0) 99
            state(2, 1) 1
            hull(2, 0, 0) 99
            hull(2, 1, 0) 100
            hull(2, 4, 0) 103
            hull(2, 7, 0) 100
            hull(2, 8, 0) 99
            hull(2, 0, 2) 99
            state(3, 1) 2
            hull(3, 0, 2) 100
            hull(3, 1, 2) 99
            hull(3, 7, 2) 99
            hull(3, 8, 2) 100
            state(4, 1) 11
            hull(4, 4, 0) 143
            hull(4, 0, 2) 104
            state(5, 1) 12
            hull(5, 4, 0) 147
            hull(5, 0, 2) 105
            // no INCH above 12
            state(6, 1) 12
            hull(6, 4, 0) 147
            hull(6, 8, 2) 105
            state(6, 0) 0
            """);
        run("13: 12 INCHES, not at once", """
            text 1 char 1; pull 0; stand 999;
            force(1) 0
            work(3, 0, 9) 0
            work(3, 0, 9) 1
            state(2, 1) 12
            hull(2, 4, 0) 68
            hull(2, 8, 2) 16
            """);
    }

    private void pull() {
        int[] shares = {0, 1, 2, 3, 4, 3, 2, 1, 0};
        for (int s = 1; s < 8; s++) {
            // 40 times SHARE is as much as (9 and GRAIN) times 4, 41 times SHARE is above
            int grain = 10 * shares[s] - 9;
            String ahead = "force(1) 0\nall 3 99\nwork(3, 0, 1) 0\ncarve(" + s + ", 3, " + grain + ") 99";
            int bit = 1 << s;
            run("13: PULL as much as it stands at " + s, "text 1 char 1; pull 40; stand 9;", ahead, "hull(1, " + s + ", 3) 0",
                "state(1, 0) 0", "state(1, 2) -1", "crack(0, 1) 0", "far(0) 12");
            run("13: PULL is above at " + s, "text 1 char 1; pull 41; stand 9;", ahead, "hull(1, " + s + ", 3) 1",
                "state(1, 0) " + bit, "state(1, 2) 0", "crack(0, 1) " + bit, "far(0) 0");
        }
        for (int s = 0; s <= 9; s++) {
            run("13: SPREAD at " + s + " spreads all, and sews none", "text 1 char 9; pull 999; stand 0;", "force(1) 0",
                "work(3, " + s + ", 9) 0", "work(0, " + s + ", 9) 1", "state(1, 0) 254", "state(2, 0) 254", "state(2, 1) 9",
                "hull(2, 0, 0) 20", "hull(2, 1, 0) 29", "hull(2, 4, 0) 56", "hull(2, 4, 1) 8", "hull(2, 0, 2) 14", "hull(2, 4, 2) 10");
        }
        run("13: without a SHARE no PULL breaks it", """
            text 1 char 1; pull 999; stand 0;
            force(1) 0
            all 3 1
            work(3, 0, 9) 0
            state(1, 0) 254
            hull(1, 0, 3) 0
            hull(1, 8, 3) 0
            """);
        run("13: BROKEN stays, though it is pulled less", """
            text 1 char 1; pull 999 * (wide = 24); stand 0;
            force(1) 0
            work(3, 0, 1) 0
            work(3, 0, 1) 1
            state(1, 0) 16
            // SECTIONS 2 and 6 are 24 WIDE by the second INCH
            state(2, 0) 84
            """);
    }

    private void sewing() {
        String ahead = """
            text 1 char 9; pull 999; stand 0;
            force(1) 0
            work(3, 0, 1) 0
            state(1, 0) 254
            """;
        String[] atAll = {"0 254", "1 252", "2 248", "6 128", "7 0", "8 0", "9 0"};
        for (String a : atAll) {
            run("13: SEWN by " + a, ahead, "work(4, 9, " + a.charAt(0) + ") 1", "state(2, 0) " + a.substring(2),
                "hull(2, 4, 2) 10", "forget() 1", "work(5, 9, " + a.charAt(0) + ") 1", "state(2, 0) " + a.substring(2),
                "hull(2, 4, 2) 1" + a.charAt(0), "hull(2, 0, 2) 1" + a.charAt(0), "hull(2, 8, 2) 1" + a.charAt(0));
        }
        run("13: SEWN at one SECTION", ahead, """
            work(4, 4, 0) 1
            work(4, 0, 9) 2
            work(4, 8, 9) 3
            work(4, 4, 1) 4
            work(4, 4, 9) 5
            state(2, 0) 254
            state(3, 0) 254
            state(4, 0) 254
            state(5, 0) 238
            state(6, 0) 238
            """);
        run("13: RAISED at one SECTION", ahead, """
            work(5, 4, 0) 1
            work(5, 4, 9) 2
            work(5, 0, 9) 3
            state(2, 0) 254
            hull(2, 4, 2) 10
            state(3, 0) 238
            hull(3, 4, 2) 19
            hull(3, 3, 2) 10
            hull(4, 0, 2) 19
            state(4, 0) 238
            """);
        run("13: of THICK 0 it can't be SEWN, of 1 it can", ahead, """
            carve(1, 1, 9) 8
            carve(2, 1, 10) 8
            carve(3, 1, 9) 8
            work(1, 9, 1) 1
            // only SECTION 2 has some THICK, 1
            state(2, 0) 511
            hull(2, 1, 1) 0
            hull(2, 2, 1) 1
            work(4, 9, 1) 2
            state(3, 0) 507
            work(5, 9, 9) 3
            state(4, 0) 507
            hull(4, 1, 2) 19
            """);
    }

    // ---- promises 14 to 16

    private void states() {
        run("14: the edges of its numbers", """
            state(-1, 0) -5
            state(1, 0) -5
            state(1, 3) -5
            state(MIN, 0) -5
            state(MAX, -1) -5
            state(0, -1) -7
            state(0, 3) -7
            state(0, 0) 0
            state(0, 1) 0
            state(0, 2) -1
            work(1, 0, 9) 0
            work(1, 8, 9) 1
            work(1, 9, 9) 2
            state(1, 0) 1
            state(2, 0) 257
            state(3, 0) 511
            state(4, 0) -5
            // the first one, of three
            state(1, 2) 0
            state(3, 2) 0
            """);
        run("14: the first WORKING that breaks one", """
            work(0, 9, 9) 0
            work(4, 9, 9) 1
            work(1, 4, 3) 2
            // 2 THICK: the next hour breaks it
            work(1, 4, 1) 3
            // it is BROKEN ahead of that, and THICK 0
            work(1, 4, 9) 4
            work(1, 5, 9) 5
            state(3, 2) -1
            state(4, 2) 3
            state(5, 2) 3
            state(6, 2) 3
            """);
        run("14: BROKEN, SEWN and BROKEN again", """
            text 1 char 1; pull 999; stand 0;
            force(1) 0
            work(4, 9, 9) 0
            work(3, 0, 1) 1
            work(4, 9, 9) 2
            work(3, 0, 1) 3
            state(1, 2) -1
            state(2, 2) 1
            state(3, 0) 0
            state(3, 2) 1
            state(4, 0) 254
            state(4, 2) 1
            state(3, 2) 1
            state(1, 2) -1
            state(0, 2) -1
            """);
    }

    private void days() {
        run("15: the edges of its numbers", """
            days(-1, 0) -5
            days(1, 0) -5
            days(1, 2) -5
            days(0, -1) -7
            days(0, 2) -7
            days(0, 0) 0
            days(0, 1) -1
            work(0, 0, 0) 0
            days(1, 0) 1
            days(1, 1) 0
            days(2, 0) -5
            """);
        run("15: ten of the longest", "work(5, 9, 9)\n".repeat(10), """
            set(3, 1) 2
            days(10, 0) 230
            days(10, 1) 0
            days(11, 0) -5
            set(3, 5) 1
            // 23 by 5, cut up: 5
            days(10, 0) 50
            days(10, 1) 0
            """);
        run("15: of like ones the first, by all MEN", """
            // of one man 3, 4, 5, 4
            work(0, 0, 2) 0
            work(0, 0, 3) 1
            work(0, 0, 4) 2
            work(0, 0, 3) 3
            set(3, 1) 2
            days(1, 1) 0
            days(2, 1) 1
            days(3, 1) 2
            days(4, 1) 2
            set(3, 2) 1
            // 2 2 3 2
            days(2, 1) 0
            days(4, 0) 9
            days(4, 1) 2
            set(3, 3) 2
            // 1 2 2 2
            days(4, 0) 7
            days(4, 1) 1
            set(3, 5) 3
            // 1 1 1 1
            days(4, 0) 4
            days(4, 1) 0
            """);
    }

    private void fewest() {
        run("16: the edges of its numbers", """
            fewest(-1, 0) -5
            fewest(1, 0) -5
            fewest(1, -1) -5
            fewest(1, 1000) -5
            fewest(0, -1) -7
            fewest(0, 1000) -7
            fewest(0, MIN) -7
            fewest(0, MAX) -7
            fewest(0, 0) 1
            fewest(0, 999) 1
            work(0, 0, 0) 0
            fewest(1, 0) -1
            fewest(1, 1) 1
            fewest(1, 999) 1
            fewest(0, 0) 1
            """);
        run("16: ten of the longest", "work(5, 9, 9)\n".repeat(10), """
            // 230, 120, 80, 60, 50
            fewest(10, 999) 1
            fewest(10, 230) 1
            fewest(10, 229) 2
            fewest(10, 120) 2
            fewest(10, 119) 3
            fewest(10, 80) 3
            fewest(10, 79) 4
            fewest(10, 60) 4
            fewest(10, 59) 5
            fewest(10, 50) 5
            fewest(10, 49) -1
            fewest(10, 0) -1
            fewest(0, 0) 1
            count(3) 2
            """);
    }

    public static void main(String[] args) {
        EdgesHullTest test = new EdgesHullTest();
        test.newObject();
        test.noWorkings();
        test.carving();
        test.setting();
        test.works();
        test.daysOfKinds();
        test.fire();
        test.edgesOfHull();
        test.pull();
        test.sewing();
        test.states();
        test.days();
        test.fewest();
        test.check.end();
    }
}
