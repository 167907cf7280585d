/** The edges of promises 17 to 30: how far it may be spread, wished and old boats, thickness, fire, how it floats. */
public final class EdgesBoatTest {
    private final Check check = new Check("EdgesBoatTest");
    private final Script script = new Script(check);

    private void run(String title, String... lines) {
        script.run(title, String.join("\n", lines));
    }

    // ---- promises 17 to 20

    private void cracks() {
        run("17, 18: the edges of their numbers", """
            crack(-1, 0) -5
            crack(1, 0) -5
            crack(1, 13) -5
            crack(MIN, 0) -5
            crack(MAX, -1) -5
            crack(0, -1) -7
            crack(0, 13) -7
            crack(0, MIN) -7
            crack(0, MAX) -7
            far(-1) -5
            far(1) -5
            far(MIN) -5
            far(MAX) -5
            // at the MIDDLE 4 times the INCHES is above 9, at SECTIONS 3 and 5 9 times the INCHES is above 72
            crack(0, 0) 0
            crack(0, 2) 0
            crack(0, 3) 16
            crack(0, 8) 16
            crack(0, 9) 56
            crack(0, 12) 56
            far(0) 2
            work(0, 0, 0) 0
            crack(1, 12) 56
            far(1) 2
            crack(2, 0) -5
            far(2) -5
            """);
        run("17, 18: SPREAD 11 and 12", """
            text 1 char 1; pull 999 * (wide = 68); stand 0;
            force(1) 0
            work(3, 0, 9) 0
            work(3, 0, 2) 1
            work(3, 0, 1) 2
            far(0) 11
            far(1) 2
            far(2) 0
            crack(0, 11) 0
            crack(0, 12) 16
            crack(1, 2) 0
            crack(1, 3) 16
            crack(1, 12) 16
            crack(2, 0) 0
            crack(2, 1) 16
            crack(2, 12) 16
            // 12 INCHES are all; and it is BROKEN ahead
            crack(3, 12) 0
            far(3) 0
            stop(3, 999, 0, 5) 0
            odds(3, 12, 5, 0) 1
            odds(3, 12, 5, 1) 1
            """);
        run("18: all 12, none", """
            text 1 char 1; pull 0; stand 999;
            text 2 char 1; pull 999; stand 0;
            force(1) 0
            far(0) 12
            crack(0, 12) 0
            work(3, 0, 1) 0
            far(1) 11
            force(2) 1
            far(0) 0
            crack(0, 0) 0
            crack(0, 1) 254
            // all that can crack is BROKEN ahead
            far(1) 11
            crack(1, 12) 0
            work(4, 7, 1) 1
            crack(2, 1) 128
            far(2) 0
            """);
        run("17: burnt through ahead, it doesn't crack", """
            text 1 char 9; pull 999; stand 0;
            force(1) 0
            work(1, 3, 1) 0
            crack(1, 1) 246
            work(1, 9, 1) 1
            crack(2, 1) 0
            far(2) 12
            """);
    }

    // just the first INCH pulls the MIDDLE, by 40: it cracks, if that is above 10, its GRAIN and k
    private static final String FIRST_INCH = """
        text 1 char 1; pull 40 * (wide = 24); stand 10;
        force(1) 0
        """;

    private void odds(String title, String ahead, int inches, int... chances) {
        StringBuilder lines = new StringBuilder(ahead);
        for (int v = 0; v < chances.length; v++) {
            int above = chances[v];
            int below = 2 * v + 1;
            // 3 of 9 and 6 of 9 are 1 of 3 and 2 of 3; none is 0 of 1, all are 1 of 1
            int common = above == 0 || above == below ? below : below == 9 && above % 3 == 0 ? 3 : 1;
            lines.append("odds(0, " + inches + ", " + v + ", 0) " + above / common + "\n");
            lines.append("odds(0, " + inches + ", " + v + ", 1) " + below / common + "\n");
        }
        run("19: " + title, lines.toString());
    }

    private void chances() {
        run("19: the edges of its numbers", """
            odds(-1, 0, 0, 0) NO
            odds(1, 0, 0, 0) NO
            odds(0, -1, 0, 0) NO
            odds(0, 13, 0, 0) NO
            odds(0, 0, -1, 0) NO
            odds(0, 0, 6, 0) NO
            odds(0, 0, 0, -1) NO
            odds(0, 0, 0, 2) NO
            odds(0, 0, 0, 0) 1
            odds(0, 0, 0, 1) 1
            odds(0, 0, 5, 0) 1
            odds(0, 0, 5, 1) 1
            odds(0, 12, 0, 0) 0
            odds(0, 12, 0, 1) 1
            odds(0, 12, 5, 0) 0
            odds(0, 12, 5, 1) 1
            // by 2 INCHES the MIDDLE cracks, if 8 is above 9 and k
            odds(0, 2, 5, 0) 7
            odds(0, 2, 5, 1) 11
            """);
        odds("as much as it stands", FIRST_INCH, 1, 1, 2, 3, 4, 5, 6);
        odds("SPREAD on", FIRST_INCH, 12, 1, 2, 3, 4, 5, 6);
        odds("no INCH", FIRST_INCH, 0, 1, 3, 5, 7, 9, 11);
        odds("one GRAIN less", FIRST_INCH + "carve(4, 3, 29) 30\n", 1, 0, 1, 2, 3, 4, 5);
        odds("3 of 9", FIRST_INCH + "carve(4, 3, 28) 30\n", 1, 0, 0, 1, 2, 3, 4);
        odds("6 of 9", FIRST_INCH + "carve(4, 3, 31) 30\n", 1, 1, 3, 4, 5, 6, 7);
        odds("only by 5 more", FIRST_INCH + "carve(4, 3, 25) 30\n", 1, 0, 0, 0, 0, 0, 1);
        odds("not by 5 more", FIRST_INCH + "carve(4, 3, 24) 30\n", 1, 0, 0, 0, 0, 0, 0);
        odds("but by 5 less", FIRST_INCH + "carve(4, 3, 34) 30\n", 1, 1, 3, 5, 7, 9, 10);
        odds("even by 5 less", FIRST_INCH + "carve(4, 3, 35) 30\n", 1, 1, 3, 5, 7, 9, 11);
        odds("all GRAIN is more or less", """
            text 1 char 1; pull 0; stand 0;
            force(1) 0
            all 3 99
            carve(0, 3, 3) 99
            carve(8, 3, 2) 99
            """, 1, 1, 3, 5, 6, 7, 8);
        run("19: what is BROKEN ahead is none of the CRACKS", FIRST_INCH, """
            work(1, 4, 9) 0
            work(1, 0, 9) 1
            odds(1, 12, 5, 0) 1
            odds(1, 12, 5, 1) 1
            odds(2, 12, 5, 0) 1
            odds(2, 12, 0, 1) 1
            odds(0, 12, 5, 0) 6
            stop(1, 1, 9999, 5) 12
            stop(2, 1, 9999, 5) 12
            stop(0, 1, 9999, 5) 0
            """);
        odds("GRAIN below 0", """
            text 1 char 1; pull 0; stand 0;
            force(1) 0
            all 3 1
            """, 12, 1, 3, 4, 5, 6, 7);
        odds("GRAIN above 99", """
            text 1 char 1; pull 103; stand 0;
            force(1) 0
            all 3 99
            """, 1, 0, 0, 0, 0, 1, 2);
    }

    private void stops() {
        run("20: the edges of its numbers", """
            stop(-1, 0, 0, 0) -5
            stop(1, 0, 0, 0) -5
            stop(1, -1, -1, -1) -5
            stop(0, -1, 0, 0) -7
            stop(0, 1000, 0, 0) -7
            stop(0, 0, -1, 0) -7
            stop(0, 0, 10000, 0) -7
            stop(0, 0, 0, -1) -7
            stop(0, 0, 0, 6) -7
            stop(0, 0, 0, 0) 0
            stop(0, 0, 9999, 5) 0
            stop(0, 999, 0, 0) 2
            stop(0, 999, 9999, 0) 2
            stop(0, 999, 0, 5) 2
            stop(0, 1, 0, 0) 2
            stop(0, 1, 9999, 5) 1
            """);
        // 12 INCHES for v and 1 of 2 v and 1 chances, else the cost
        run("20: more than nothing, as much as nothing", FIRST_INCH, """
            stop(0, 1, 9999, 0) 12
            stop(0, 1, 23, 1) 12
            stop(0, 1, 24, 1) 0
            stop(0, 1, 25, 1) 0
            stop(0, 1, 17, 2) 12
            stop(0, 1, 18, 2) 0
            stop(0, 1, 15, 3) 12
            stop(0, 1, 16, 3) 0
            stop(0, 1, 14, 4) 12
            stop(0, 1, 15, 4) 0
            stop(0, 1, 14, 5) 12
            stop(0, 1, 15, 5) 0
            stop(0, 999, 9999, 1) 12
            stop(0, 999, 9999, 5) 12
            stop(0, 0, 0, 5) 0
            stop(0, 0, 1, 5) 0
            """);
        run("20: of like ones the least", """
            // the second INCH is hard on the MIDDLE by k = -1: 1 for sure, or 24 by 3 less the cost by 3
            text 1 char 1; pull 40 * (wide = 28); stand 10;
            force(1) 0
            stop(0, 1, 20, 1) 12
            stop(0, 1, 21, 1) 1
            stop(0, 1, 22, 1) 1
            stop(0, 0, 0, 1) 0
            """);
        run("20: SPREAD 12 at most", """
            text 1 char 1; pull 0; stand 999;
            force(1) 0
            work(3, 0, 9) 0
            work(3, 0, 2) 1
            work(3, 0, 1) 2
            stop(0, 1, 9999, 5) 12
            stop(0, 999, 9999, 5) 12
            stop(1, 1, 0, 0) 3
            stop(2, 1, 0, 0) 1
            stop(3, 1, 0, 0) 0
            stop(4, 1, 0, 0) -5
            """);
    }

    // ---- promises 21 to 23

    private void sheetsOfWidths() {
        String[] calls = {"wished(S, 0, 0)", "old(S)", "copyOf(S, 0)"};
        for (String call : calls) {
            String of0 = call.replace("S", "0");
            run("21 to 23: SHEETS, " + call, call.replace("S", "-1") + " -2", call.replace("S", "4") + " -2",
                call.replace("S", "MIN") + " -2", call.replace("S", "MAX") + " -2", of0 + " -11", call.replace("S", "3") + " -11",
                "row 0:", of0 + " -2", "row 0: 20 20 20 20 20 20 20 20", of0 + " -2",
                "row 0: 20 20 20 20 20 20 20 20 20 20", of0 + " -2", "sheet(0, -1, 9) 1", of0 + " -11");
            for (int at = 0; at < 9; at += 4) {
                StringBuilder lines = new StringBuilder("row 0: 20 20 20 20 20 20 20 20 20\n");
                for (String wrong : new String[] {"0", "199", "-1", "MIN", "MAX"}) {
                    lines.append("cell(0, " + at + ", " + wrong + ") 1\n" + of0 + " -2\n");
                }
                run("21 to 23: wrong numbers, " + call, lines.toString());
            }
        }
        run("21 to 23: the first refusal told", """
            wished(9, 13, 9) -5
            wished(9, 13, 8) -7
            wished(9, 12, 8) -2
            wished(0, 13, 9) -5
            wished(0, 13, 8) -7
            wished(0, 12, 8) -11
            copyOf(9, 13) -2
            copyOf(0, 13) -11
            row 0: 1
            wished(0, 13, 8) -7
            wished(0, 12, 8) -2
            copyOf(0, 13) -2
            row 0: 20 20 20 20 20 20 20 20 199
            wished(0, 13, 0) -7
            wished(0, 12, 0) -2
            copyOf(0, 13) -2
            // it can't be CARVED so, but a number is wrong
            row 0: 20 20 20 20 1 20 20 20 0
            wished(0, 12, 4) -2
            old(0) -2
            copyOf(0, 12) -2
            row 0: 20 20 20 20 1 20 20 20 20
            wished(0, 12, 4) -1
            copyOf(0, 12) -3
            copyOf(0, 13) -3
            copyOf(0, -1) -3
            copyOf(0, MIN) -3
            copyOf(0, MAX) -3
            """);
    }

    private void wished() {
        run("21: 1 .. 99", """
            row 0: 1 198 198 198 198 198 198 198 99
            wished(0, 0, 0) 1
            wished(0, 12, 0) 1
            wished(0, 0, 8) 99
            wished(0, 12, 8) 99
            wished(0, 0, 4) -1
            wished(0, 12, 4) -1
            cell(0, 0, 100) 1
            wished(0, 0, 0) -1
            wished(0, 12, 0) -1
            cell(0, 0, 198) 1
            wished(0, 12, 0) -1
            // 12 times 4: 99, 100, 1, 0, -1
            cell(0, 4, 147) 1
            wished(0, 12, 4) 99
            wished(0, 11, 4) -1
            cell(0, 4, 148) 1
            wished(0, 12, 4) -1
            cell(0, 4, 49) 1
            wished(0, 12, 4) 1
            wished(0, 0, 4) 49
            cell(0, 4, 48) 1
            wished(0, 12, 4) -1
            wished(0, 11, 4) 4
            cell(0, 4, 47) 1
            wished(0, 12, 4) -1
            wished(0, -1, 4) -7
            wished(0, 13, 4) -7
            wished(0, 0, -1) -5
            wished(0, 0, 9) -5
            // SHARE 1, 2, 3
            row 0: 50 50 50 50 50 50 50 50 50
            wished(0, 12, 1) 38
            wished(0, 12, 2) 26
            wished(0, 12, 3) 14
            wished(0, 12, 4) 2
            wished(0, 12, 5) 14
            wished(0, 12, 6) 26
            wished(0, 12, 7) 38
            wished(0, 12, 8) 50
            carved(4, 0) 20
            """);
        run("21: a byte of 127 at most, a short of more", """
            row 0 0: 127 127 127 127 127 127 127 127 127
            wished(0, 12, 4) 79
            wished(0, 12, 0) -1
            cell(0, 8, 128) 1
            wished(0, 12, 4) -2
            row 0 1: 198 198 198 198 147 198 198 198 99
            wished(0, 12, 4) 99
            cell(0, 8, 65635) 1
            wished(0, 12, 8) 99
            """);
    }

    private void old(String title, int due, String row) {
        run("22: " + title, "row 1: " + row, "old(1) " + due);
    }

    private void olds() {
        old("the least of all", 0, "1 1 1 1 1 1 1 1 1");
        old("by none only, for SHARE 1", 0, "1 1 9 9 9 9 9 9 9");
        old("by none only, for SHARE 4", 0, "1 2 3 4 4 4 3 2 1");
        old("by 1 at most", 1, "1 2 3 4 5 4 3 2 1");
        old("by 12 at most", 12, "1 13 25 37 49 37 25 13 1");
        old("narrow in the MIDDLE, by less than none it would be evener", 0, "14 13 12 11 10 11 12 13 14");
        old("by 13 it would be evener", 12, "20 33 46 59 72 59 46 33 20");
        old("by 12 only", 12, "99 99 99 99 147 99 99 99 99");
        old("by 12, not by 11", 12, "99 110 121 132 147 132 121 110 99");
        old("the MIDDLE is too WIDE", -1, "99 99 99 99 148 99 99 99 99");
        old("all as WIDE as can be told", -1, "198 198 198 198 198 198 198 198 198");
        old("none: one must be less, one can't", -1, "50 50 50 50 147 35 50 50 50");
        old("as just one of them", 12, "50 50 50 50 147 37 50 50 50");
        // a SECTION of 150 is too WIDE by any INCHES, one of 1 can't be less, but at the ends it needn't be
        for (int s = 0; s < 9; s++) {
            String row = "50 50 50 50 50 50 50 50 50".substring(3 * s);
            String ahead = "50 50 50 50 50 50 50 50 50".substring(0, 3 * s);
            old("too WIDE at " + s, -1, ahead + "150" + row.substring(2));
            boolean isEnd = s % 8 == 0;
            run("22, 23: 1 WIDE at " + s, "row 1: " + ahead + "1" + row.substring(2), "copyOf(1, 12) " + (isEnd ? 9 : -3),
                "copyOf(1, 1) " + (isEnd ? 7 : -3), "copyOf(1, 0) " + (isEnd ? 7 : 9), "old(1) 0");
        }
        // differences of 1 1 2 2: by 1 and by 2 UNEVEN is 4
        old("of like ones the least", 1, "50 51 52 54 56 54 52 51 50");
        old("of like ones none", 0, "10 10 10 12 14 12 10 10 10");
        // by 3 to 12 it can be
        old("the best that can be", 3, "99 99 99 99 111 99 99 99 99");
    }

    private void copies() {
        run("23: how many were otherwise", """
            row 0: 20 20 20 20 20 20 20 20 20
            copyOf(0, 0) 0
            row 0: 20 20 20 20 21 20 20 20 20
            copyOf(0, 0) 1
            carved(4, 0) 21
            copyOf(0, 0) 0
            row 0: 1 1 1 1 1 1 1 1 1
            copyOf(0, 1) -3
            carved(0, 0) 20
            copyOf(0, 0) 9
            carved(0, 0) 1
            carved(4, 0) 1
            carved(8, 0) 1
            row 0: 99 111 123 135 147 135 123 111 99
            copyOf(0, 11) -3
            copyOf(0, 13) -3
            copyOf(0, -1) -3
            carved(4, 0) 1
            copyOf(0, 12) 9
            carved(0, 0) 99
            carved(4, 0) 99
            carved(7, 0) 99
            copyOf(0, 12) 0
            cell(0, 8, 100) 1
            copyOf(0, 12) -3
            cell(0, 8, 1) 1
            copyOf(0, 12) 1
            carved(8, 0) 1
            // nothing but WIDE is CARVED
            carved(8, 1) 8
            carved(8, 2) 10
            """);
        run("23: too little is left at the last SECTION only", """
            row 0: 50 50 50 50 50 50 50 12 50
            copyOf(0, 12) -3
            carved(0, 0) 20
            copyOf(0, 11) 9
            carved(7, 0) 1
            carved(4, 0) 6
            """);
    }

    // ---- promises 24 to 27

    private void even() {
        run("24: the edges of its numbers", """
            even(-1, 0) -5
            even(9, 0) -5
            even(9, 1000) -5
            even(0, -1) -7
            even(0, 1000) -7
            even(0, 0) 1
            even(8, 999) 20
            // 22, 24 .. 60: between two the lesser
            even(0, 22) 1
            even(0, 23) 1
            even(0, 24) 2
            even(0, 25) 2
            even(0, 59) 19
            even(0, 60) 20
            even(0, 61) 20
            """);
        run("24: PULL at its bounds", """
            text 1 char 1; pull thick * 100; stand 1;
            text 2 char 1; pull 5 - thick; stand 1;
            text 3 char 1; pull 500; stand 1;
            force(1) 0
            // 900 and 999
            even(0, 949) 9
            even(0, 950) 10
            even(0, 999) 10
            even(0, 0) 1
            force(2) 1
            // 4 3 2 1 0 0 ..
            even(0, 999) 1
            even(0, 3) 2
            even(0, 0) 5
            force(3) 2
            even(0, 0) 1
            even(0, 500) 1
            even(0, 999) 1
            // 0 is 999 away, 1 is 998 away
            text 4 char 1; pull thick = 2; stand 1;
            force(4) 3
            even(0, 999) 2
            even(0, 1) 2
            even(0, 0) 1
            """);
        run("24: as WIDE as it is carved, with its KNOT, in this WIND", """
            text 1 char 1; pull wide * thick + knot * 100 + wind; stand 1;
            force(1) 0
            carve(2, 0, 1) 20
            carve(3, 0, 99) 20
            carve(4, 4, 1) 0
            work(3, 0, 9) 0
            even(2, 17) 17
            even(3, 990) 10
            even(4, 200) 5
            set(1, 9) 0
            even(2, 17) 8
            """);
    }

    private void hours() {
        run("25: the edges of its numbers", """
            hours(-1, 0) -5
            hours(9, 0) -5
            hours(9, 2) -5
            hours(0, -1) -7
            hours(0, 2) -7
            hours(0, 0) 3
            hours(8, 1) 4
            // THICK as the PEG, one more, one less
            carve(0, 5, 8) 2
            hours(0, 0) 0
            carve(0, 5, 7) 8
            hours(0, 0) 1
            carve(0, 5, 6) 7
            hours(0, 0) 1
            carve(0, 5, 5) 6
            hours(0, 0) 2
            carve(0, 5, 20) 5
            hours(0, 0) 0
            hours(0, 1) 4
            carve(0, 5, 0) 20
            hours(0, 0) 4
            carve(0, 1, 1) 8
            hours(0, 0) 1
            hours(0, 1) 1
            """);
        run("25: 20 hours, and more than 24", """
            text 1 char 1; pull 0; stand 0;
            text 2 char 0; pull 0; stand 0;
            text 3 char 9; pull 0; stand 0;
            force(1) 0
            carve(4, 1, 20) 8
            hours(4, 1) 20
            hours(4, 0) 18
            force(2) 1
            hours(4, 1) -1
            hours(4, 0) -1
            carve(4, 5, 20) 2
            hours(4, 0) 0
            force(3) 2
            // 11, 2, 0
            hours(4, 1) 3
            carve(4, 5, 2) 20
            hours(4, 0) 2
            """);
    }

    private void left() {
        String winds = """
            text 1 char wind; pull 0; stand 0;
            force(1) 0
            """;
        // 8 THICK, a PEG of 2: as THICK as the PEG is enough
        String[] due = {"0 1 1", "1 7 10", "2 2 5", "3 3 10", "4 1 5", "6 1 5", "7 1 10", "24 1 10"};
        for (String d : due) {
            String[] n = d.split(" ");
            run("26: " + n[0] + " hours", winds, "left(0, " + n[0] + ", 0) " + n[1], "left(0, " + n[0] + ", 1) " + n[2],
                "set(1, 9) 0", "left(8, " + n[0] + ", 0) " + n[1], "left(8, " + n[0] + ", 1) " + n[2], "count(1) 9");
        }
        run("26: the edges of its numbers", winds, """
            left(-1, 0, 0) NO
            left(9, 0, 0) NO
            left(0, -1, 0) NO
            left(0, 25, 0) NO
            left(0, 0, -1) NO
            left(0, 0, 2) NO
            // a PEG of 1, no PEG, one as long as it is THICK, one that is longer
            carve(0, 5, 1) 2
            left(0, 24, 0) 1
            left(0, 24, 1) 10
            // 7 less by an hour of 7, and by 7 hours of 1
            left(0, 1, 0) 4
            left(0, 1, 1) 5
            left(0, 7, 0) 1
            left(0, 7, 1) 5
            left(0, 8, 0) 1
            left(0, 8, 1) 10
            carve(0, 5, 0) 1
            left(0, 24, 0) 1
            left(0, 24, 1) 1
            carve(0, 5, 8) 0
            left(0, 0, 0) 1
            left(0, 24, 0) 1
            left(0, 24, 1) 10
            carve(0, 5, 9) 8
            left(0, 0, 0) 0
            left(0, 0, 1) 1
            left(0, 24, 0) 0
            left(0, 24, 1) 1
            """);
    }

    private void judge() {
        run("27: SHEETS", """
            judge(-1, 9) -5
            judge(1, 0) -5
            judge(0, -1) -2
            judge(0, 4) -2
            judge(0, 0) -11
            judge(0, 3) -11
            row 0:
            judge(0, 0) -2
            row 0: 8 8 8 8 8 8 8 8
            judge(0, 0) -2
            row 0: 8 8 8 8 8 8 8 8 8 8
            judge(0, 0) -2
            row 0: 8 8 8 8 8 8 8 8 8
            judge(0, 0) -1
            judge(1, 0) -5
            cell(0, 8, 9) 1
            judge(0, 0) 8
            cell(0, 0, 9) 1
            judge(0, 0) 0
            carve(0, 1, 9) 8
            judge(0, 0) 8
            // any numbers may be told
            row 0: MIN -1 0 8 7 1 8 8 8
            judge(0, 0) -1
            cell(0, 3, MAX) 1
            judge(0, 0) 3
            // THICK 0 is no less than 0
            row 1 0: 0 0 0 0 0 0 0 0 0
            work(1, 9, 9) 0
            judge(1, 1) -1
            cell(1, 8, 1) 1
            judge(1, 1) 8
            cell(1, 8, 200) 1
            judge(1, 1) -1
            """);
    }

    // ---- promises 28 to 30

    // 891 WIDE in all; each SECTION weighs 1485, together 13365: that is 15 deep
    private static final String GREATEST = "all 0 99\nall 1 20\nall 2 99\n";

    // 9 WIDE in all; each SECTION weighs 3 by 4, cut: nothing
    private static final String LEAST = "all 0 1\nall 1 1\nall 2 1\n";

    private void floats() {
        run("28: the edges of its numbers", """
            floats(-1, 0, 0) -5
            floats(1, 0, 0) -5
            floats(1, -1, 3) -5
            floats(0, -1, 0) -7
            floats(0, 10000, 0) -7
            floats(0, 0, -1) -7
            floats(0, 0, 3) -7
            floats(0, 9999, 3) -7
            floats(0, 9999, 0) -1
            floats(0, 0, 0) 4
            floats(0, 0, 1) 6
            floats(0, 0, 2) 720
            """);
        run("28: the greatest", GREATEST, """
            floats(0, 0, 0) 15
            floats(0, 0, 1) 84
            floats(0, 0, 2) 5513
            floats(0, 1, 0) 16
            floats(0, 891, 0) 16
            floats(0, 892, 0) 17
            floats(0, 9999, 0) 27
            floats(0, 9999, 1) 72
            floats(0, 9999, 2) 3150
            """);
        run("28: the least", LEAST, """
            floats(0, 0, 0) 0
            floats(0, 0, 1) 1
            floats(0, 0, 2) 9
            floats(0, 1, 0) 1
            floats(0, 9, 0) 1
            floats(0, 9, 1) 0
            floats(0, 9, 2) 4
            // 2 deep is above HIGH 1
            floats(0, 10, 0) -1
            floats(0, 10, 1) -1
            floats(0, 10, 2) -1
            """);
        run("28, 29: weights are cut at each SECTION", """
            all 2 1
            all 1 1
            // 1 and 2, 2 and 2, .. 9 and 2, by 4: 0 1 1 1 1 2 2 2 2, together 12
            carve(0, 0, 1) 20
            carve(1, 0, 2) 20
            carve(2, 0, 3) 20
            carve(3, 0, 4) 20
            carve(4, 0, 5) 20
            carve(5, 0, 6) 20
            carve(6, 0, 7) 20
            carve(7, 0, 8) 20
            carve(8, 0, 9) 20
            bears(0, 0) 33
            floats(0, 0, 0) 1
            floats(0, 33, 0) 1
            floats(0, 34, 0) -1
            """);
        run("28: BROKEN", """
            work(1, 0, 9) 0
            work(1, 8, 9) 1
            floats(1, 0, 0) -1
            floats(1, 0, 1) -1
            floats(1, 0, 2) -1
            floats(2, 0, 0) -1
            floats(0, 0, 0) 4
            """);
        for (int s = 0; s < 9; s++) {
            // 720 less 20: 4 deep; with 200 more 5 deep, and above that one deeper
            run("28 to 30: the least HIGH is at " + s, "carve(" + s + ", 2, 5) 10", "floats(0, 0, 1) 1", "floats(0, 200, 1) 0",
                "floats(0, 201, 1) -1", "bears(0, 0) 200", "bears(0, 1) 20", "bears(0, 2) -1", "bar(0, 200, 0) 1", "bar(0, 201, 0) 0",
                "bar(0, 0, 1) 1", "bar(0, 0, 2) " + (s % 8 == 0 ? 0 : 1));
            run("28 to 30: BROKEN is " + s, "work(1, " + s + ", 9) 0", "floats(1, 0, 0) -1", "bears(1, 0) -1", "bar(1, 0, 0) 0",
                "floats(0, 0, 0) 4", "bears(0, 0) 1080", "bar(0, 0, 0) 1");
        }
        run("28: as deep as the least HIGH, and deeper", """
            // 720 and 1080 are 10 deep
            floats(0, 1080, 0) 10
            floats(0, 1080, 1) 0
            floats(0, 1080, 2) 327
            floats(0, 1081, 0) -1
            carve(8, 2, 9) 10
            floats(0, 900, 0) 9
            floats(0, 900, 1) 0
            floats(0, 904, 0) 9
            floats(0, 905, 0) -1
            """);
    }

    private void bears() {
        run("29: the edges of its numbers", """
            bears(-1, 0) -5
            bears(1, 0) -5
            bears(1, 100) -5
            bears(0, -1) -7
            bears(0, 100) -7
            bears(0, 0) 1080
            bears(0, 6) 0
            bears(0, 7) -1
            bears(0, 99) -1
            """);
        run("29: the greatest", GREATEST, """
            bears(0, 0) 74844
            bears(0, 84) 0
            bears(0, 85) -1
            bears(0, 99) -1
            work(1, 4, 9) 0
            // 20 less 18 THICK it is whole, and weighs 1485 less 148
            bears(1, 0) 76181
            work(1, 4, 1) 1
            bears(2, 0) -1
            """);
        run("29: the least", LEAST, """
            bears(0, 0) 9
            bears(0, 1) 0
            bears(0, 2) -1
            bears(0, 99) -1
            """);
    }

    private void bar() {
        run("30: the edges of its numbers", """
            bar(-1, 0, 0) -5
            bar(1, 0, 0) -5
            bar(1, -1, -1) -5
            bar(0, -1, 0) -7
            bar(0, 10000, 0) -7
            bar(0, 0, -1) -7
            bar(0, 0, 1000) -7
            bar(0, 0, 0) 1
            bar(0, 0, 6) 1
            bar(0, 0, 7) 0
            bar(0, 0, 999) 0
            bar(0, 9999, 0) 0
            bar(0, 1080, 0) 1
            bar(0, 1080, 1) 0
            bar(0, 1081, 0) 0
            """);
        run("30: the greatest", GREATEST, """
            bar(0, 0, 84) 1
            bar(0, 0, 85) 0
            bar(0, 9999, 72) 1
            bar(0, 9999, 73) 0
            bar(0, 9999, 999) 0
            // the lesser of both ends, not of all; it weighs 390, 10, 20 less, and is 26 deep
            carve(4, 2, 60) 99
            bar(0, 9999, 73) 1
            bar(0, 9999, 74) 0
            carve(0, 2, 98) 99
            bar(0, 9999, 72) 1
            bar(0, 9999, 73) 0
            carve(8, 2, 97) 99
            bar(0, 9999, 71) 1
            bar(0, 9999, 72) 0
            work(1, 4, 9) 0
            bar(1, 0, 0) 1
            work(1, 4, 9) 1
            bar(2, 0, 0) 0
            """);
        run("30: the least", LEAST, """
            bar(0, 0, 1) 1
            bar(0, 0, 2) 0
            bar(0, 9, 0) 1
            bar(0, 9, 1) 0
            bar(0, 10, 0) 0
            """);
    }

    public static void main(String[] args) {
        EdgesBoatTest test = new EdgesBoatTest();
        test.cracks();
        test.chances();
        test.stops();
        test.sheetsOfWidths();
        test.wished();
        test.olds();
        test.copies();
        test.even();
        test.hours();
        test.left();
        test.judge();
        test.floats();
        test.bears();
        test.bar();
        test.check.end();
    }
}
