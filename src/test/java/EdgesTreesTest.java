/** The edges of promises 31 to 38: trees, holes into them, felling, a village's trees. */
public final class EdgesTreesTest {
    private final Check check = new Check("EdgesTreesTest");
    private final Script script = new Script(check);

    private void run(String title, String... lines) {
        script.run(title, String.join("\n", lines));
    }

    // ---- promises 31 and 32

    private void trees() {
        run("31: the edges of its numbers", """
            row 0: 1 0 0 0 0
            tree(0, 0, 0, 0) -2
            tree(100, 0, 0, 0) -2
            tree(MIN, 0, 0, 0) -2
            tree(MAX, 0, 0, 0) -2
            tree(9, -10, 0, 0) -2
            tree(9, 10, 0, 0) -2
            tree(9, 0, -1, 0) -2
            tree(9, 0, 10, 0) -2
            tree(9, 0, 0, -1) -2
            tree(9, 0, 0, 4) -2
            count(6) 0
            tree(1, -9, 0, 0) 0
            tree(99, 9, 9, 0) 1
            taken(0, 6) 1
            taken(1, 6) 99
            worth(0, 0) 1
            // 99 less 27
            worth(1, 0) 72
            count(6) 2
            """);
        run("31: the first refusal told", """
            tree(0, 0, 0, 1) -2
            tree(1, 0, 0, 4) -2
            tree(1, 0, 0, 1) -11
            row 1: 1 1 1 1
            tree(1, 0, 0, 1) -2
            row 1: 1 1 1 1 1 1
            tree(1, 0, 0, 1) -2
            row 1:
            tree(1, 0, 0, 1) -2
            sheet(1, -1, 0) 1
            tree(1, 0, 0, 1) -11
            """);
        run("31: how much RINGS count", """
            row 0: 0 0 0 0 0
            tree(9, 0, 0, 0) -2
            row 0: 0 0 0 0 1
            tree(99, 0, 0, 0) 0
            worth(0, 0) 75
            row 0: 99 99 99 99 99
            tree(99, 0, 0, 0) 1
            worth(1, 0) 87
            row 0: 0 0 0 0 100
            tree(9, 0, 0, 0) -2
            row 0: 100 0 0 0 0
            tree(9, 0, 0, 0) -2
            row 0: -1 1 1 1 1
            tree(9, 0, 0, 0) -2
            // together 0, but some are no such numbers
            row 0: 1 -1 0 0 0
            tree(9, 0, 0, 0) -2
            row 0: MIN MIN 1 0 0
            tree(9, 0, 0, 0) -2
            // bytes and shorts tell them, too: 256 is the byte 0
            row 0 0: 256 0 0 0 257
            tree(99, 0, 0, 0) 2
            worth(2, 0) 75
            row 0 0: 0 0 0 0 512
            tree(99, 0, 0, 0) -2
            row 0 1: 65536 0 0 0 65635
            tree(99, 0, 0, 0) 3
            count(6) 4
            """);
        run("31: TREES are full", """
            row 0: 1 0 0 0 0
            tree(1, 0, 0, 0) 0
            tree(2, 0, 0, 0) 1
            tree(3, 0, 0, 0) 2
            tree(4, 0, 0, 0) 3
            tree(5, 0, 0, 0) 4
            tree(6, 0, 0, 0) 5
            tree(7, 0, 0, 0) -4
            tree(0, 0, 0, 0) -2
            tree(7, 10, 0, 0) -2
            tree(7, 0, -1, 0) -2
            tree(7, 0, 0, 4) -2
            tree(7, 0, 0, 1) -11
            row 1: 1
            tree(7, 0, 0, 1) -2
            row 1: 0 0 0 0 0
            tree(7, 0, 0, 1) -2
            row 1: 0 0 0 0 100
            tree(7, 0, 0, 1) -2
            row 1: 1 1 1 1 1
            tree(7, 0, 0, 1) -4
            count(6) 6
            taken(5, 6) 6
            which() 5
            // the SHEET's own numbers are the TREE's no more
            cell(0, 0, 0) 1
            cell(0, 4, 9) 1
            worth(5, 0) 6
            """);
        run("32: the edges of its numbers", """
            bore(0, 0) -5
            row 0: 1 0 0 0 0
            tree(50, 0, 0, 0) 0
            bore(-1, 0) -5
            bore(1, 0) -5
            bore(1, 5) -5
            bore(MIN, 0) -5
            bore(MAX, -2) -5
            bore(0, -2) -7
            bore(0, 5) -7
            bore(0, MIN) -7
            bore(0, MAX) -7
            bore(0, -1) -1
            bore(0, 0) -1
            bore(0, 5) -7
            bore(0, 4) 0
            bore(0, -2) -7
            worth(0, 0) 26
            bore(0, -1) 4
            worth(0, 0) 50
            bore(0, -1) -1
            """);
    }

    // ---- promises 33 to 36

    private void good() {
        run("33: GOOD is held at 0", """
            row 0: 0 0 0 0 1
            // 24 less is 1, 0, below 0
            tree(25, 0, 0, 0) 0
            tree(24, 0, 0, 0) 1
            tree(23, 0, 0, 0) 2
            tree(1, 0, 9, 0) 3
            worth(0, 0) 1
            worth(0, 1) 1
            worth(1, 0) 0
            worth(1, 1) 1
            worth(2, 0) 0
            worth(2, 1) 1
            worth(3, 0) 0
            worth(3, 1) 1
            // by KNOTS: 27 and 6
            row 0: 0 1 0 0 0
            tree(34, 0, 9, 0) 4
            tree(32, 0, 9, 0) 5
            worth(4, 0) 1
            worth(5, 0) 0
            which() 0
            bore(2, 3) -1
            worth(2, 0) 5
            which() 2
            """);
        run("33: in the mean those below 0 count as 0", """
            // 10 4 0 0 0 by 1 1 1 1 1
            row 0: 1 1 1 1 1
            tree(10, 0, 0, 0) 0
            worth(0, 0) 14
            worth(0, 1) 5
            // by 99 0 0 0 99: 990 by 198
            row 0: 99 0 0 0 99
            tree(10, 0, 0, 0) 1
            worth(1, 0) 5
            worth(1, 1) 1
            worth(-1, 0) NO
            worth(2, 0) NO
            worth(0, -1) NO
            worth(0, 2) NO
            boring(-1, 0) NO
            boring(2, 0) NO
            boring(0, -1) NO
            boring(0, 2) NO
            """);
    }

    private void holes() {
        run("34 to 36: none, one alone", """
            which() -1
            hole() -1
            row 0: 1 0 0 0 1
            tree(50, 0, 0, 0) 0
            which() 0
            hole() -1
            boring(0, 0) 0
            boring(0, 1) 1
            bore(0, 4) -1
            which() 0
            hole() -1
            boring(0, 0) 0
            """);
        run("34: of like ones the first", """
            row 0: 1 0 0 0 0
            row 1: 1 0 1 0 0
            tree(44, 0, 0, 0) 0
            tree(50, 0, 0, 1) 1
            tree(44, 0, 0, 0) 2
            tree(50, 0, 0, 0) 3
            tree(50, 0, 0, 0) 4
            which() 3
            bore(3, 1) -1
            which() 4
            bore(4, 1) -1
            // all are 44
            which() 0
            bore(1, 0) -1
            which() 1
            """);
        run("35, 36: above 0, just 0", """
            // 50 or 26, in the mean 38
            row 0: 1 0 0 0 1
            row 1: 1 0 0 0 0
            tree(50, 0, 0, 0) 0
            // as good as the best, as the worst of it: nothing is to be found
            tree(50, 0, 0, 1) 1
            boring(0, 0) 0
            boring(0, 1) 1
            hole() -1
            bore(1, 4) -1
            boring(0, 0) 0
            hole() -1
            // 49, 27: (50 + 49) by 2 less 49, (50 + 27) by 2 less 38
            tree(49, 0, 0, 1) 2
            boring(0, 0) 1
            boring(0, 1) 2
            hole() 0
            bore(2, 4) -1
            boring(0, 0) 0
            tree(27, 0, 0, 1) 3
            boring(0, 0) 1
            boring(0, 1) 2
            hole() 0
            bore(0, 0) -1
            boring(0, 0) 0
            boring(0, 1) 1
            hole() -1
            """);
        run("36: of like ones the first, the best of unlike ones", """
            row 0: 1 0 0 0 1
            row 1: 1 0 0 0 0
            tree(40, 0, 0, 1) 0
            tree(50, 0, 0, 0) 1
            tree(50, 0, 0, 0) 2
            boring(0, 0) 0
            boring(1, 0) 5
            boring(2, 0) 5
            hole() 1
            tree(51, 0, 0, 0) 3
            // (51 + 40) by 2 less 40: 11 by 2
            boring(3, 0) 11
            boring(3, 1) 2
            hole() 3
            bore(3, 0) -1
            hole() -1
            bore(3, 4) 0
            hole() 1
            bore(1, 2) -1
            hole() 2
            """);
        run("35: a TREE of GOOD 0 finds what others are", """
            row 0: 0 0 0 0 1
            tree(1, 0, 9, 0) 0
            tree(1, 0, 9, 0) 1
            boring(0, 0) 0
            boring(0, 1) 1
            which() 0
            hole() -1
            """);
    }

    // ---- promise 37

    private void fell() {
        String rings = "row 0: 1 0 0 0 0";
        run("37: the edges of its numbers", rings, """
            fell(0, 0, 0) -5
            tree(59, 1, 0, 0) 0
            fell(-1, 0, 0) -5
            fell(1, 0, 0) -5
            fell(1, 256, 2) -5
            fell(0, -1, 0) -7
            fell(0, 256, 0) -7
            fell(0, 0, -1) -7
            fell(0, 0, 2) -7
            fell(0, 0, 0) 0
            fell(0, 0, 1) 5
            fell(0, 255, 0) 0
            fell(0, 255, 1) 0
            """);
        run("37: HURT is held at 0", rings, """
            // 12 less: 1, 0, below 0
            tree(49, 0, 3, 0) 0
            tree(39, 0, 3, 0) 1
            tree(29, 0, 3, 0) 2
            tree(9, 0, 0, 0) 3
            fell(0, 255, 1) 1
            fell(1, 255, 1) 0
            fell(2, 255, 1) 0
            fell(3, 255, 1) 0
            fell(0, 128, 0) 7
            fell(0, 128, 1) 1
            fell(2, 128, 0) 7
            fell(2, 128, 1) 0
            // 0 without boughs, too: the first is least
            fell(3, 128, 0) 0
            fell(3, 128, 1) 0
            fell(3, 0, 1) 0
            """);
        run("37: of like ones the least, though both are below 0", rings, """
            // 1 at SIDE 0, 2 at 1 and 7 without boughs; less 12 they are all 0
            tree(10, 1, 0, 0) 0
            fell(0, 0, 0) 0
            fell(0, 0, 1) 1
            fell(0, 130, 0) 1
            fell(0, 128, 0) 7
            fell(0, 144, 0) 4
            fell(0, 255, 0) 0
            fell(0, 255, 1) 0
            """);
        run("37: GIRTH by 10 is cut", rings, """
            tree(1, 0, 0, 0) 0
            tree(9, 0, 0, 0) 1
            tree(10, 0, 0, 0) 2
            tree(19, 0, 0, 0) 3
            tree(20, 0, 0, 0) 4
            tree(99, 0, 0, 0) 5
            fell(0, 0, 1) 0
            fell(1, 0, 1) 0
            fell(2, 0, 1) 1
            fell(3, 0, 1) 1
            fell(4, 0, 1) 2
            fell(5, 0, 1) 9
            """);
        leans(rings);
    }

    /** 9 and 27, and the size of LEAN for each SIDE; only one SIDE has no boughs less than 12. */
    private void leans(String rings) {
        for (int lean : new int[] {-9, -1, 0, 1, 9}) {
            int from = lean < 0 ? 4 : 0;
            StringBuilder lines = new StringBuilder("tree(99, " + lean + ", 9, 0) 0\n");
            for (int side = 0; side < 8; side++) {
                int away = Math.min((side - from + 8) % 8, (from - side + 8) % 8);
                int there = 24 + Math.abs(lean) * away;
                boolean isThere = there < 36 || there == 36 && side < from;
                lines.append("fell(0, " + (1 << side) + ", 0) " + (isThere ? side : from) + "\n");
                lines.append("fell(0, " + (1 << side) + ", 1) " + Math.min(there, 36) + "\n");
            }
            run("37: LEAN " + lean, rings, lines.toString(), "fell(0, 0, 0) " + from, "fell(0, 0, 1) 36", "fell(0, 255, 0) " + from,
                "fell(0, 255, 1) 24");
        }
        run("37: as much there as here", rings, """
            // 12 for 3 SIDES: on boughs at 1 and at 7 as at 4
            tree(1, -4, 0, 0) 0
            fell(0, 2, 0) 1
            fell(0, 2, 1) 0
            fell(0, 128, 0) 4
            fell(0, 128, 1) 0
            // 12 for 4 SIDES
            tree(1, -3, 0, 0) 1
            fell(1, 1, 0) 0
            tree(1, 3, 0, 0) 2
            fell(2, 16, 0) 0
            """);
    }

    // ---- promise 38

    private void forest() {
        run("38: the edges of its numbers", """
            forest(0, 0, 201) -2
            forest(0, 1, 0) -11
            row 0: 10
            forest(-1, 1, 1) -2
            forest(4, 1, 1) -2
            forest(0, 0, 1) -2
            forest(0, 1000, 1) -2
            forest(0, 1, -1) -2
            forest(0, 1, 201) -2
            forest(0, MIN, 1) -2
            forest(0, 1, MAX) -2
            forest(3, 0, 1) -2
            forest(3, 1, -1) -2
            forest(3, 1, 1) -11
            forest(0, 1, 0) 0
            forest(0, 1, 1) 1
            forest(0, 1, 200) 200
            forest(0, 999, 200) 0
            // as old as told, one year less, more
            forest(0, 10, 1) 1
            forest(0, 11, 1) 0
            forest(0, 11, 2) 1
            // it is felled at 10, and 10 again behind 10 years more
            forest(0, 10, 10) 1
            forest(0, 10, 11) 2
            """);
        run("38: ages", """
            row 0: 0
            forest(0, 1, 1) 0
            forest(0, 1, 2) 1
            forest(0, 1, 200) 199
            row 0: 999
            forest(0, 999, 1) 1
            forest(0, 999, 200) 1
            row 0: 1000
            forest(0, 999, 1) -2
            forest(0, 999, 0) -2
            row 0: -1
            forest(0, 1, 1) -2
            row 0: 5 5 5 -1
            forest(0, 1, 0) -2
            row 0: MAX
            forest(0, 1, 1) -2
            row 0: MIN
            forest(0, 1, 1) -2
            // 999 years old and standing, it grows older
            row 0: 999 999
            forest(0, 999, 2) 2
            forest(0, 999, 3) 2
            // the bytes 128, -1 are below 0
            row 0 0: 127
            forest(0, 127, 1) 1
            cell(0, 0, 128) 1
            forest(0, 1, 1) -2
            cell(0, 0, 255) 1
            forest(0, 1, 1) -2
            row 0 1: 32768
            forest(0, 1, 1) -2
            """);
        run("38: none of them, 40", """
            row 0:
            forest(0, 1, 200) 0
            forest(0, 1, 201) -2
            row 1 0:
            forest(1, 1, 200) 0
            sheet(2, 2, 40) 1
            // one a year, from the second year on
            forest(2, 1, 1) 0
            forest(2, 1, 200) 199
            forest(2, 40, 200) 160
            cell(2, 39, 999) 1
            forest(2, 999, 200) 1
            forest(2, 200, 200) 1
            forest(2, 199, 200) 2
            // what one SHEET told is not the next one's
            forest(0, 1, 200) 0
            cell(2, 39, 1000) 1
            forest(2, 999, 200) -2
            forest(0, 1, 200) 0
            """);
        run("38: only the oldest is felled", """
            // 30, then the other, who is 31 by then
            row 0: 30 30
            forest(0, 30, 1) 1
            forest(0, 30, 2) 2
            forest(0, 30, 30) 2
            forest(0, 30, 31) 3
            forest(0, 30, 32) 4
            """);
    }

    public static void main(String[] args) {
        EdgesTreesTest test = new EdgesTreesTest();
        test.trees();
        test.good();
        test.holes();
        test.fell();
        test.forest();
        test.check.end();
    }
}
