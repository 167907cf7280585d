/** The edges of promises 39 to 48: drying, hulls drawn, the image, SHEETS, what the host takes and brings. */
public final class EdgesHostTest {
    private final Check check = new Check("EdgesHostTest");
    private final Script script = new Script(check);

    private void run(String title, String... lines) {
        script.run(title, String.join("\n", lines));
    }

    // ---- promises 39 to 41

    private void dries() {
        run("39, 40: the edges of their numbers", """
            dries(-1, 0) -5
            dries(1, 0) -5
            dries(1, 100) -5
            dries(0, -1) -7
            dries(0, 100) -7
            dries(0, MIN) -7
            dries(0, MAX) -7
            shade(-1) -5
            shade(1) -5
            shade(MIN) -5
            shade(MAX) -5
            // 3 times the days is above 30 times 8
            dries(0, 0) 0
            dries(0, 80) 0
            dries(0, 81) 511
            dries(0, 99) 511
            shade(0) 80
            // 9 times 22 times 10 is not above 99 times 20
            set(2, 9) 3
            set(4, 9) 0
            all 3 99
            all 1 20
            dries(0, 22) 0
            dries(0, 23) 511
            dries(0, 99) 511
            shade(0) 22
            """);
        run("40: 1, 98, 99 days, none", """
            // 37 times 8 is 296, below 3 times 99; 298 isn't
            all 3 37
            dries(0, 98) 0
            dries(0, 99) 511
            shade(0) 98
            all 3 38
            dries(0, 99) 0
            shade(0) -1
            // 1 day: 3 is above 2, not above 3
            carve(5, 1, 1) 8
            carve(5, 3, 2) 38
            dries(0, 1) 32
            shade(0) 0
            carve(5, 3, 3) 2
            dries(0, 1) 0
            dries(0, 2) 32
            shade(0) 1
            // 0 is above less than 0, in no days even
            carve(5, 4, 1) 0
            dries(0, 0) 32
            shade(0) 0
            carve(5, 3, 20) 3
            dries(0, 0) 0
            dries(0, 1) 32
            carve(5, 3, 19) 20
            dries(0, 0) 32
            set(2, 0) 3
            dries(0, 99) 32
            shade(0) 0
            carve(5, 3, 20) 19
            dries(0, 99) 0
            shade(0) -1
            """);
        run("39: SEASON and 1", """
            all 1 1
            all 3 9
            set(2, 1) 3
            dries(0, 9) 0
            dries(0, 10) 511
            set(4, 9) 0
            // 10 a day is above 9
            dries(0, 0) 0
            dries(0, 1) 511
            all 3 10
            dries(0, 1) 0
            dries(0, 2) 511
            """);
        run("39, 40: BROKEN, of THICK 0", """
            text 1 char 9; pull 999 * (wide = 24); stand 0;
            force(1) 0
            set(2, 9) 3
            set(4, 9) 0
            work(1, 0, 1) 0
            work(3, 0, 1) 1
            work(4, 9, 9) 2
            dries(0, 99) 511
            dries(1, 99) 510
            dries(2, 99) 494
            // SECTION 0 can't be SEWN
            dries(3, 99) 510
            work(1, 9, 1) 3
            dries(4, 99) 0
            shade(4) -1
            shade(3) 2
            """);
    }

    private void drawn() {
        run("41: the edges of its numbers", """
            drawn(-1, 0, 0, 0) -5
            drawn(1, 0, 0, 0) -5
            drawn(1, 9, -1, 2) -5
            drawn(0, -1, 0, 0) -7
            drawn(0, 9, 0, 0) -7
            drawn(0, 0, -1, 0) -7
            drawn(0, 0, 100000, 0) -7
            drawn(0, 0, 0, -1) -7
            drawn(0, 0, 0, 2) -7
            drawn(0, 9, 0, 1) -7
            drawn(0, 0, 0, 0) 8
            drawn(0, 8, 99999, 0) 8
            drawn(0, 8, 99999, 1) 0
            work(1, 0, 1) 0
            // LOT 48271 leaves 1 by 3: nothing more; LOT 532132706 leaves 2: 1 more
            drawn(1, 0, 0, 0) 6
            drawn(1, 0, 99999, 0) 5
            drawn(1, 0, 99999, 1) 0
            """);
        run("41: CHAR is held at 0, and no more at 9", """
            // the LOTS of SEED 0 are 0 -1 -1 0 0 1 1 1 1 1 more
            text 1 char 0; pull 0; stand 0;
            text 2 char 9; pull 0; stand 0;
            text 3 char 1; pull 0; stand 0;
            force(1) 0
            all 1 20
            work(1, 9, 1) 0
            drawn(1, 0, 0, 0) 20
            drawn(1, 1, 0, 0) 20
            drawn(1, 2, 0, 0) 20
            drawn(1, 4, 0, 0) 20
            drawn(1, 5, 0, 0) 19
            force(2) 1
            drawn(1, 0, 0, 0) 11
            drawn(1, 1, 0, 0) 12
            drawn(1, 4, 0, 0) 11
            drawn(1, 5, 0, 0) 10
            drawn(1, 8, 0, 0) 10
            force(3) 2
            drawn(1, 0, 0, 0) 19
            drawn(1, 1, 0, 0) 20
            drawn(1, 2, 0, 0) 20
            drawn(1, 5, 0, 0) 18
            drawn(1, 0, 0, 1) 0
            """);
        run("41: THICK is held at 0; no LOT without an hour", """
            text 1 char 9; pull 0; stand 0;
            force(1) 0
            carve(0, 1, 9) 8
            carve(1, 1, 9) 8
            carve(2, 1, 1) 8
            carve(3, 5, 8) 2
            carve(5, 1, 10) 8
            carve(6, 1, 11) 8
            work(2, 9, 9) 0
            // 9 by 9, 9 by 8, the last 1 by 8, 1 by 9; none for SECTION 3; 8 by 9, 10 by 10, 11 by 10
            drawn(1, 0, 0, 0) 0
            drawn(1, 1, 0, 0) 1
            drawn(1, 2, 0, 0) 1
            drawn(1, 3, 0, 0) 8
            // SECTIONS 1 and 2 are no THICKER than their PEGS; the third LOT is SECTION 4's
            drawn(1, 4, 0, 0) 0
            drawn(1, 5, 0, 0) 1
            drawn(1, 6, 0, 0) 2
            drawn(1, 7, 0, 0) 0
            drawn(1, 0, 0, 1) 401
            """);
        run("41: burnt through, it takes no LOT more", """
            // 6, 5, 4, 2, 0 by 5 hours; then 5 by the LOT of 1 more
            work(1, 4, 9) 0
            work(1, 3, 1) 1
            drawn(2, 4, 0, 0) 0
            drawn(2, 3, 0, 0) 5
            drawn(1, 3, 0, 0) 8
            drawn(2, 3, 0, 1) 16
            """);
        run("41: burnt through by the first of 3 hours, it takes one LOT", """
            // the next LOT is the second one, of 1 less
            carve(0, 1, 1) 8
            work(1, 0, 3) 0
            work(1, 1, 1) 1
            drawn(2, 0, 0, 0) 0
            drawn(2, 1, 0, 0) 7
            drawn(2, 1, 0, 1) 1
            """);
        run("41: no LOT is any other call's", """
            work(1, 4, 9) 0
            work(1, 3, 1) 1
            drawn(2, 3, 0, 0) 5
            hours(3, 1) 4
            left(3, 3, 0) 1
            hull(2, 3, 1) 6
            state(2, 2) 0
            drawn(2, 3, 0, 0) 5
            hours(3, 1) 4
            even(3, 40) 10
            """);
    }

    // ---- promises 42 and 43

    private void image() {
        run("42, 43: none, one, another one", """
            back() -3
            back() -3
            image() 0
            carve(0, 0, 1) 20
            work(0, 0, 0) 0
            back() 1
            carved(0, 0) 20
            carve(0, 0, 2) 20
            image() 1
            carve(0, 0, 3) 2
            forget() 0
            back() 0
            carved(0, 0) 2
            back() 0
            carved(0, 0) 2
            """);
        run("43: BORED of those that came since, too, stays", """
            row 0: 1 1 1 1 1
            tree(50, 0, 0, 0) 0
            tree(51, 0, 0, 0) 1
            bore(1, 4) -1
            image() 0
            bore(0, 0) -1
            bore(1, -1) 4
            tree(52, 0, 0, 0) 2
            tree(53, 0, 0, 0) 3
            bore(2, 2) -1
            back() 0
            bore(0, -1) -1
            bore(1, 4) 4
            bore(2, 2) 2
            bore(3, -1) -1
            count(6) 4
            // an IMAGE of all TREES, full
            tree(54, 0, 0, 0) 4
            tree(55, 0, 0, 0) 5
            bore(5, 0) -1
            image() 0
            bore(5, 4) 0
            bore(0, 4) -1
            back() 0
            bore(5, -1) 0
            bore(0, -1) -1
            """);
        run("43: what an IMAGE keeps, and what it doesn't", """
            text 1 char 1;pull 2;stand 3;
            image() 0
            force(1) 0
            carve(0, 0, 99) 20
            carve(8, 5, 0) 2
            set(0, 9) 5
            set(1, 9) 0
            set(2, 9) 3
            set(3, 5) 2
            set(4, 9) 0
            work(5, 9, 9) 0
            row 3 0: 1 2 3
            text 2 char 4;pull 5;stand 6;
            tape abc
            back() 1
            count(0) 5
            count(1) 0
            count(2) 3
            count(3) 2
            count(4) 0
            count(5) 1
            count(7) 3
            count(8) 0
            count(9) 3
            carved(0, 0) 20
            carved(8, 5) 2
            cell(3, 2, 3) 1
            cell(3, 3, 3) -12
            force(2) 0
            asks(2, 0, 0, 0) 6
            """);
    }

    // ---- promises 44 to 46

    private void sheets() {
        run("44: the edges of its numbers", """
            sheet(-1, 0, 1) -2
            sheet(4, 0, 1) -2
            sheet(4, 0, -1) -2
            sheet(4, -1, 1) -2
            sheet(0, -2, 1) -2
            sheet(0, 3, 1) -2
            sheet(0, -2, -1) -2
            sheet(0, 3, 41) -2
            sheet(0, 0, 41) -2
            sheet(0, 2, MAX) -2
            sheet(0, 0, -1) -14
            sheet(0, 1, -1) -14
            sheet(0, 2, MIN) -14
            cell(0, 0, 0) -11
            sheet(0, 0, 0) 1
            cell(0, 0, 0) -12
            copy(0, 0, 0, 0, 0) 0
            sheet(3, 2, 40) 1
            cell(3, 39, 7) 1
            cell(3, 40, 7) -12
            // refused, it stays a row of 40
            sheet(3, 2, 41) -2
            sheet(3, 2, -1) -14
            sheet(3, 3, 1) -2
            copy(3, 0, 3, 0, 40) 40
            // missing, by any n
            sheet(3, -1, 41) 1
            cell(3, 0, 7) -11
            sheet(3, -1, -1) 1
            sheet(3, -1, MIN) 1
            sheet(3, -1, MAX) 1
            copy(3, 0, 3, 0, 0) -11
            """);
        run("44: all 0 again", """
            row 0: 9 9 9 9 9 9 9 9 9
            old(0) 0
            sheet(0, 2, 9) 1
            old(0) -2
            forest(0, 1, 1) 0
            forest(0, 1, 2) 1
            row 0: 9 9 9 9 9 9 9 9 9
            sheet(0, -1, 9) 1
            sheet(0, 2, 9) 1
            forest(0, 1, 1) 0
            """);
        run("45: the edges of its numbers", """
            cell(-1, 0, 1) -2
            cell(4, 0, 1) -2
            cell(4, -1, 1) -2
            cell(0, 0, 1) -11
            cell(0, -1, 1) -11
            cell(0, 40, 1) -11
            sheet(0, 2, 3) 1
            cell(0, -1, 1) -12
            cell(0, 3, 1) -12
            cell(0, MIN, 1) -12
            cell(0, MAX, 1) -12
            cell(0, 0, MIN) 1
            cell(0, 2, MAX) 1
            """);
        wraps();
    }

    /** What a byte, a short and an int are made of, by the age that one tree is then; -2: that is no age. */
    private void wraps() {
        String[] told = {"0 0 0", "0 127 127", "0 128 -2", "0 255 -2", "0 256 0", "0 257 1", "0 383 127", "0 384 -2", "0 -1 -2",
            "0 -128 -2", "0 -129 127", "0 -255 1", "0 -256 0", "0 -257 -2", "0 65535 -2", "0 65536 0", "0 MAX -2", "0 MIN 0",
            "1 255 255", "1 999 999", "1 1000 -2", "1 32767 -2", "1 65535 -2", "1 65536 0", "1 65537 1", "1 66535 999",
            "1 66536 -2", "1 -1 -2", "1 -65535 1", "1 -65536 0", "1 -64537 999", "1 MAX -2", "1 MIN 0", "2 999 999", "2 1000 -2",
            "2 65536 -2", "2 65537 -2", "2 256 256", "2 -1 -2", "2 MAX -2", "2 MIN -2"};
        for (String t : told) {
            String[] n = t.split(" ");
            int age = Integer.parseInt(n[2]);
            StringBuilder lines = new StringBuilder("sheet(1, " + n[0] + ", 1) 1\ncell(1, 0, " + n[1] + ") 1\n");
            if (age < 0) {
                lines.append("forest(1, 1, 1) -2\n");
            } else {
                lines.append("forest(1, " + Math.max(age, 1) + ", 1) " + (age > 0 ? 1 : 0) + "\n");
                lines.append(age < 999 ? "forest(1, " + (age + 1) + ", 1) 0\n" : "");
            }
            run("45: of sort " + n[0] + " " + n[1], lines.toString());
        }
        run("45: below 0 it is less than any THICK", """
            row 0 0: 127 255 128 -1 0 8 9 8 8
            judge(0, 0) 0
            cell(0, 0, 256) 1
            judge(0, 0) 6
            cell(0, 6, 136) 1
            judge(0, 0) -1
            """);
    }

    private void copies() {
        run("46: the edges of its numbers", """
            copy(-1, 0, 0, 0, 0) -2
            copy(4, 0, 0, 0, 0) -2
            copy(0, 0, -1, 0, 0) -2
            copy(0, 0, 4, 0, 0) -2
            copy(0, 0, 1, 0, 0) -11
            copy(0, -1, 1, 0, 0) -11
            row 0: 1 2 3
            copy(0, 0, 1, 0, 0) -11
            copy(1, 0, 0, 0, 0) -11
            copy(1, 0, 4, 0, 0) -2
            copy(4, 0, 1, 0, 0) -2
            row 1 1: 4 5 6
            copy(0, 0, 1, 0, 0) -13
            copy(0, -1, 1, 0, -1) -13
            copy(1, 0, 0, 9, 9) -13
            row 1: 4 5 6 7
            copy(0, -1, 1, 0, 0) -12
            copy(0, 0, 1, -1, 0) -12
            copy(0, 4, 1, 0, 0) -12
            copy(0, 0, 1, 5, 0) -12
            copy(0, 3, 1, 4, 0) 0
            copy(0, 0, 1, 0, -1) -12
            copy(0, 0, 1, 0, MIN) -12
            copy(0, 0, 1, 0, MAX) -12
            copy(0, MAX, 1, 0, MAX) -12
            copy(0, 0, 1, MAX, 1) -12
            copy(0, MIN, 1, 0, 1) -12
            copy(0, 1, 1, 0, MAX) -12
            copy(0, 0, 1, 0, 4) -12
            copy(1, 0, 0, 0, 4) -12
            copy(0, 1, 1, 0, 3) -12
            copy(0, 0, 1, 2, 3) -12
            copy(0, 2, 1, 3, 1) 1
            copy(0, 2, 1, 3, 2) -12
            copy(0, 0, 1, 1, 3) 3
            """);
        run("46: to its own places, as they were", """
            row 0: 1 2 3 4 5 6 7 8 9
            copy(0, 0, 0, 1, 8) 8
            wished(0, 0, 0) 1
            wished(0, 0, 1) 1
            wished(0, 0, 2) 2
            wished(0, 0, 8) 8
            copy(0, 1, 0, 0, 8) 8
            wished(0, 0, 0) 1
            wished(0, 0, 7) 8
            wished(0, 0, 8) 8
            copy(0, 0, 0, 0, 9) 9
            wished(0, 0, 7) 8
            copy(0, 8, 0, 0, 1) 1
            wished(0, 0, 0) 8
            """);
        run("46: of bytes and shorts, too", """
            row 0 0: 1 2 3 4 5 6 7 8 9
            row 1 0: 9 9 9 9 9 9 9 9 9
            copy(0, 0, 1, 8, 1) 1
            wished(1, 0, 8) 1
            wished(1, 0, 7) 9
            row 0 1: 1 2 3 4 5 6 7 8 198
            row 1 1: 9 9 9 9 9 9 9 9 9
            copy(0, 8, 1, 0, 1) 1
            wished(1, 0, 0) -1
            wished(1, 0, 1) 9
            copy(0, 0, 1, 0, 9) 9
            wished(1, 0, 1) 2
            """);
    }

    // ---- promises 47 and 48

    private void worksBy() {
        run("47: the edges of its numbers", """
            worksBy(-1, 0, 0, 0) -2
            worksBy(4, 0, 0, 0) -2
            worksBy(0, -1, 0, 0) -2
            worksBy(0, 3, 0, 0) -2
            worksBy(0, 0, 0, -1) -2
            worksBy(0, 0, 0, 11) -2
            worksBy(0, 0, 0, 0) -11
            worksBy(0, 0, -1, 10) -11
            sheet(0, 1, 40) 1
            worksBy(0, 0, 0, 0) -13
            worksBy(0, 2, -1, 10) -13
            worksBy(0, 1, -1, 1) -12
            worksBy(0, 1, 38, 1) -12
            worksBy(0, 1, 40, 1) -12
            worksBy(0, 1, MIN, 1) -12
            worksBy(0, 1, MAX, 10) -12
            count(5) 0
            worksBy(0, 1, 0, 0) 0
            worksBy(0, 1, 37, 1) 1
            count(5) 1
            worksBy(0, 1, 0, 10) 9
            count(5) 10
            worksBy(0, 1, 0, 10) 0
            worksBy(0, 1, 11, 10) -12
            count(5) 10
            """);
        run("47: a row of 0 numbers, of 2, of 3", """
            row 0:
            worksBy(0, 2, 0, 0) 0
            worksBy(0, 2, 0, 1) -12
            row 0: 0 0
            worksBy(0, 2, 0, 1) -12
            row 0: 0 0 0
            worksBy(0, 2, 1, 1) -12
            count(5) 0
            worksBy(0, 2, 0, 2) -12
            count(5) 1
            worksBy(0, 2, 0, 1) 1
            count(5) 2
            """);
        run("47: ten come, from the last place that has room for them", """
            sheet(0, 0, 40) 1
            worksBy(0, 0, 10, 10) 10
            count(5) 10
            """);
        run("47: what stood ahead came", """
            row 0: 1 2 3 4 5 6 0 7 8 9
            worksBy(0, 2, 0, 4) -12
            count(5) 3
            workTold(0, 0) 1
            workTold(0, 1) 2
            workTold(0, 2) 3
            workTold(1, 0) 4
            workTold(2, 2) 8
            worksBy(0, 2, 1, 4) -12
            // 2 3 4, 5 6 0; 7 8 9 is left out
            count(5) 5
            workTold(3, 0) 2
            workTold(4, 2) 0
            worksBy(0, 2, 1, 3) 2
            count(5) 7
            worksBy(0, 2, 8, 1) -12
            worksBy(0, 2, 9, 1) -12
            count(5) 7
            """);
        run("47: others are left out", """
            // -1 0 0, 6 0 0, 0 -1 0, 0 10 0, 0 0 -1, 0 0 10, 5 9 9
            row 0: -1 0 0 6 0 0 0 -1 0 0 10 0 0 0 -1 0 0 10 5 9 9
            worksBy(0, 2, 0, 7) 1
            count(5) 1
            workTold(0, 0) 5
            worksBy(0, 2, 0, 6) 0
            worksBy(0, 2, 0, 8) -12
            count(5) 2
            // the byte 251 is below 0, 256 and 5 is 5
            row 1 0: 251 0 0 261 0 0
            worksBy(1, 0, 0, 2) 1
            workTold(2, 0) 5
            """);
        run("47: full in the midst", "work(0, 0, 0)\n".repeat(8), """
            row 0: 1 1 1 9 9 9 2 2 2 3 3 3
            worksBy(0, 2, 0, 4) 2
            count(5) 10
            workTold(8, 0) 1
            workTold(9, 0) 2
            worksBy(0, 2, 0, 5) -12
            count(5) 10
            forget() 9
            worksBy(0, 2, 9, 1) 1
            workTold(9, 0) 3
            """);
    }

    private void taken() {
        run("48: the edges of its numbers", """
            taken(0, -1) -2
            taken(0, 7) -2
            taken(-1, 7) -2
            taken(16, -1) -2
            taken(-1, 0) -12
            taken(16, 6) -12
            taken(MIN, 0) -12
            taken(MAX, 6) -12
            taken(0, 0) -11
            taken(0, 6) -11
            taken(5, 6) -11
            taken(6, 0) -11
            taken(15, 5) -11
            row 0: 1 0 0 0 0
            tree(99, 0, 0, 0) 0
            taken(0, 6) 99
            taken(0, 0) -13
            taken(0, 5) -13
            taken(1, 0) -11
            taken(1, 6) -11
            tree(1, 0, 0, 0) 1
            tree(2, 0, 0, 0) 2
            tree(3, 0, 0, 0) 3
            tree(4, 0, 0, 0) 4
            tree(5, 0, 0, 0) 5
            taken(1, 6) 1
            taken(5, 6) 5
            taken(5, 5) -13
            taken(6, 6) -11
            """);
        run("48: full", "work(0, 0, 0)\n".repeat(9), """
            taken(6, 0) 0
            taken(14, 0) 8
            taken(15, 0) -11
            work(5, 0, 0) 9
            taken(15, 0) 9
            taken(15, 4) 9
            taken(15, 5) 9
            taken(15, 3) -13
            taken(15, 6) -13
            taken(16, 0) -12
            forget() 9
            taken(15, 0) -11
            """);
        // each KIND with those that it is one of
        String[] kinds = {"0", "01", "012", "03", "04", "045"};
        for (int kind = 0; kind < 6; kind++) {
            StringBuilder lines = new StringBuilder("work(0, 0, 0) 0\nwork(" + kind + ", 9, 9) 1\n");
            for (int of = 0; of < 7; of++) {
                lines.append("taken(7, " + of + ") " + (kinds[kind].indexOf('0' + of) >= 0 ? 1 : -13) + "\n");
            }
            run("48: KIND " + kind, lines.toString());
        }
    }

    public static void main(String[] args) {
        EdgesHostTest test = new EdgesHostTest();
        test.dries();
        test.drawn();
        test.image();
        test.sheets();
        test.copies();
        test.worksBy();
        test.taken();
        test.check.end();
    }
}
