/** The edges of promises 5 to 9 and of what Terms tells of TEXTS: THE TAPE, FAULTS, E, CHAR, PULL, STAND. */
public final class EdgesLawTest {
    private static final String LAW = "char 1;pull 2;stand 3;";

    private final Check check = new Check("EdgesLawTest");
    private final Script script = new Script(check);

    private void run(String title, String... lines) {
        script.run(title, String.join("\n", lines));
    }

    private static String bytes(int b, int n) {
        return ("{" + b + "}").repeat(n);
    }

    // ---- promise 6

    private void tape() {
        run("6: how many bytes come", """
            feed(0x6162636465666768, 0) -2
            feed(0x6162636465666768, 1) 1
            feed(0x6162636465666768, 9) -2
            feed(0x6162636465666768, 8) 9
            feed(0x6162636465666768, -1) -2
            feed(0, MIN) -2
            feed(0, MAX) -2
            count(9) 9
            """);
        run("6: THE TAPE is full", "feed(0, 8)\n".repeat(19), """
            count(9) 152
            feed(0, 9) -2
            feed(0, 7) 159
            feed(0, 2) -4
            feed(0, 8) -4
            feed(0, 0) -2
            feed(0, 9) -2
            feed(0, 1) 160
            feed(0, 1) -4
            feed(0, 8) -4
            feed(0, 0) -2
            feed(0, 9) -2
            count(9) 160
            text() -100
            count(9) 0
            feed(0, 8) 8
            """);
        run("6: 8 bytes fill it", "feed(0, 8)\n".repeat(19), """
            feed(0, 8) 160
            feed(0, 1) -4
            """);
        run("6: the lowest bytes, the highest first", """
            // "char 1;", "pull 2;", "stand 3", ";" with other bytes above them
            feed(0x7f63686172203130, 8) 8
            text() -100
            feed(0x7f6368617220313b, 7) 7
            feed(-40403288115367365, 7) 14
            feed(0x7f7374616e642033, 7) 21
            feed(-197, 1) 22
            text() 1
            """);
    }

    private void sizes() {
        run("7: a TEXT of 160 bytes", "text 1 " + LAW + bytes(32, 138), "count(9) 0", "count(7) 2", "force(1) 0", "asks(2, 0, 0, 0) 3");
        run("7: its last byte is the 160th", "text 1 char 1;pull 2;stand 3" + bytes(10, 138) + ";", "force(1) 0", "asks(2, 0, 0, 0) 3");
        run("7: FAULT at 160", "text -260 char 1;pull 2;stand 3" + bytes(32, 139), "count(9) 0", "count(7) 1");
        run("7: FAULT at 159", "text -259 " + LAW + bytes(10, 137) + "?", "count(9) 0");
        run("7: 160 blanks", "text -260 " + bytes(32, 80) + bytes(10, 80));
        run("7: 160 times nothing", "text -100 " + bytes(0, 160));
        run("7: 160 letters", "text -100 " + "c".repeat(160));
        run("7: 160 digits", "text -100 " + "1".repeat(160));
        run("7: 155 digits", "text -105 char " + "1".repeat(155));
        run("7: 155 letters", "text -105 char " + "h".repeat(155));
        run("7: an E that fills it", "text 1 char 1;pull 1" + "+1".repeat(69) + ";stand 3;", "force(1) 0", "asks(1, 0, 0, 0) 70");
        run("7: the last of 160 bytes is missing", "text -260 char 1;pull 1" + "+1".repeat(69) + ";stand 37");
        run("7: an empty TAPE", """
            text -100
            count(7) 1
            text -100
            """);
    }

    // ---- promise 7: FAULTS

    private void firstToken() {
        String[] wrong = {"x", "c", "cha", "charr", "charpull", "pull 1;pull 2;stand 3;", "stand 1;", "heat 1;", "or", "and", "not",
            "1", "9999", "10000", ";", "(", ")", "+", "-", "*", "<", "=", "?", "C", "Char 1;", "{0}", "{9}", "{13}", "{127}",
            "{128}", "{233}", "{255}"};
        for (String w : wrong) {
            run("7: the first TOKEN", "fault ^" + w, "count(7) 1", "count(8) 0", "count(9) 0");
            run("7: the first TOKEN behind blanks", "fault {32}{10}{32}^" + w);
        }
    }

    private void midst() {
        String[] tokens = {"char{32}", "1", ";", "pull{32}", "2", ";", "stand{32}", "3", ";"};
        for (int i = 0; i < tokens.length; i++) {
            StringBuilder ahead = new StringBuilder();
            StringBuilder behind = new StringBuilder();
            for (int k = 0; k < tokens.length; k++) {
                (k < i ? ahead : behind).append(k == i ? "" : tokens[k]);
            }
            run("7: TOKEN " + i + " can't stand there", "fault " + ahead + "^?{32}" + behind);
            run("7: TOKEN " + i + " is a WORD that is none", "fault " + ahead + "^sapling " + behind);
            run("7: TOKEN " + i + " is too long a NUMBER", "fault " + ahead + "{32}^00000 " + behind);
            run("7: TOKEN " + i + " is missing", "fault " + ahead + "^" + behind);
            run("7: it ends ahead of TOKEN " + i, "fault " + ahead + "^");
            run("7: it ends in blanks ahead of TOKEN " + i, "fault " + ahead + "{10}{32}^");
        }
        run("7: none of them was a TEXT", "text 1 " + LAW);
        for (String w : new String[] {"x", "1", "9999", "10000", "heat", "char", "pull", "stand", "or", "and", "not", "(", ")", "+", "-",
            "*", "<", "=", "?", "{0}", "{255}"}) {
            run("7: a TOKEN behind the text", "fault " + LAW + "^" + w);
            run("7: a TOKEN and a ; behind the text", "fault " + LAW + "{32}{10}^" + w + ";");
        }
        run("7: a ; behind the text", "fault " + LAW + "{32}^;");
        run("7: a text behind the text", "fault " + LAW + "^" + LAW);
        run("7: a byte behind the text", "fault " + LAW + "{10}^{0}");
    }

    private void grammar() {
        String[] faults = {"1+^", "1-^", "1*^", "1<^", "1=^", "1 or{32}^", "1 and{32}^", "not^", "-^", "(^", "(^)", "(1^", "1^)", "^+1",
            "^*1", "^<1", "^=1", "^or 1", "^and 1", "^)1", "^", "1 ^2", "1 ^heat", "heat ^1", "1^(2)", "(1)^(2)", "1<2^<3", "1<2^=3",
            "1=2^<3", "1=2^=3", "1+^not 2", "1-^not 2", "1*^not 2", "1<^not 2", "1=^not 2", "-^not 2", "not 1<^not 2", "1+^+2", "1+^*2",
            "1<^=2", "1=^=2", "1=^<2", "1 or ^or 2", "1 and ^and 2", "1 or ^and 2", "1 and ^or 2", "1 ^not 2", "^char", "^pull",
            "^stand", "^x", "^heatt", "^hea", "^notheat", "^heator", "^Heat", "1^,2", "1^&2", "1^/2", "1^>2", "1 ^% 2", "(1+^)",
            "(1 ^2)", "(^;1)", "1 ^char", "1 ^orheat", "not ^or 1", "-^*1", "-^)", "(1<2^<3)", "not 1^)", "heat^1", "1^heat", "heat ^sap"};
        for (String f : faults) {
            run("7: char " + f, "fault char " + f + ";pull 2;stand 3;");
            run("7: pull " + f, "fault char 1;pull " + f + ";stand 3;");
            run("7: stand " + f, "fault char 1;pull 2;stand " + f + ";");
        }
    }

    private void stands() {
        String[] can = {"1", "0000", "9999", "0009", "(1<2)<3", "1=(2=3)", "(not 1)+2", "1*(not 2)", "not1", "1and 2", "1or 2", "not-1",
            "not(1)and(2)or(3)", "1--2", "1---2", "1+-2", "1*-2", "1<-2", "1=-2", "heat<wind", "not heat<wind", "not not heat",
            "1 and not 2", "1 or not 2", "heat*wind*sap*thick*knot*wide", "((1))", "{10}1{10}", "1{10}+{10}{32}2"};
        for (String e : can) {
            run("7: " + e, "text 1 char " + e + ";pull " + e + ";stand " + e + ";", "count(7) 2", "count(9) 0");
        }
        run("7: no blanks but where WORDS need them", "text 1 char(1);pull-1;stand 3;");
        run("7: nor ahead of a NUMBER", "text 1 char1;pull2;stand3;");
        run("7: a blank cuts a WORD", "fault ^ch ar 1;pull 2;stand 3;");
        run("7: a blank cuts a NUMBER", "fault char 1 ^0;pull 2;stand 3;");
        run("7: a 10 cuts a NUMBER", "fault char 1{10}^0;pull 2;stand 3;");
        run("7: a 10 cuts a NAME", "fault char ^he{10}at;pull 2;stand 3;");
        run("7: 13 is no blank", "fault char^{13}1;pull 2;stand 3;");
        run("7: 9 is no blank", "fault char^{9}1;pull 2;stand 3;");
    }

    /** Each of the 256 bytes, where an E begins and behind a whole one. */
    private void eachByte() {
        for (int b = 0; b < 256; b++) {
            boolean isDigit = b >= '0' && b <= '9';
            boolean isBlank = b == 32 || b == 10;
            boolean isNext = isBlank || b == '(' || b == '-';
            String e = (isNext ? "" : "^") + "{" + b + "}" + (isNext ? "^" : "");
            run("7: an E begins with byte " + b, (isDigit ? "text 1 char {" + b + "}" : "fault char " + e) + ";pull 2;stand 3;");
            isNext = "+-*<=;".indexOf(b) >= 0;
            e = (isNext ? "" : "^") + "{" + b + "}" + (isNext ? "^" : "");
            run("7: behind a 1 the byte " + b, (isDigit || isBlank ? "text 1 char 1{" + b + "}" : "fault char 1" + e) + ";pull 2;stand 3;");
            boolean isLetter = b >= 'a' && b <= 'z';
            e = isLetter ? "^heat{" + b + "}" : "heat" + e;
            run("7: behind heat the byte " + b, (isBlank ? "text 1 char heat{" + b + "}" : "fault char " + e) + ";pull 2;stand 3;");
        }
    }

    /** Each letter of each WORD is looked at, and that there are no more and no less. */
    private void words() {
        String law = "char heat+wind+sap+thick+knot+wide;pull 1 or 2 and not 3;stand 3;";
        run("7: all WORDS", "text 1 " + law);
        for (int i = 0; i < law.length(); i++) {
            boolean isLetter = Character.isLetter(law.charAt(i));
            int from = i;
            while (isLetter && from > 0 && Character.isLetter(law.charAt(from - 1))) {
                from--;
            }
            if (!isLetter) {
                continue;
            }
            String ahead = "fault " + law.substring(0, from) + "^" + law.substring(from, i);
            String behind = law.substring(i + 1);
            run("7: byte " + i + " is another letter", ahead + "q" + behind);
            run("7: byte " + i + " is a great letter", ahead + Character.toUpperCase(law.charAt(i)) + behind);
            if (!Character.isLetter(behind.charAt(0))) {
                run("7: a letter more behind byte " + i, ahead + law.charAt(i) + "q" + behind);
                run("7: a letter less at byte " + i, ahead + behind);
            }
        }
    }

    private void numbers() {
        run("7: NUMBERS of 4 digits", "text 1 char 9999;pull 1000;stand 0000;");
        run("7: NUMBERS of 1 to 4 digits", "text 1 char 9+99;pull 999+9999;stand 0+00+000+0000;");
        String[] faults = {"^10000", "^99999", "^00000", "^00001", "1+^12345", "(^12345)", "not ^12345", "-^12345", "1 ^12345", "1234 ^5",
            "^4294967297", "9999*^10000", "1<^10000", "^12345 or 12345"};
        for (String f : faults) {
            run("7: char " + f, "fault char " + f + ";pull 2;stand 3;");
            run("7: pull " + f, "fault char 1;pull " + f + ";stand 3;");
            run("7: stand " + f, "fault char 1;pull 2;stand " + f + ";");
            run("7: at the end " + f, "fault char 1;pull 2;stand " + f);
        }
        run("7: the first FAULT of two", "fault char ^12345;pull 67890;stand 3;");
    }

    private void open() {
        String[] five = {"(((((1)))))", "not not not not not 1", "-----1", "- - - - -1", "not(-(-1))", "not(not(-1))", "-(-(-1))",
            "(not(not(1)))", "not not(-(1))", "((((-1))))", "not not not not -1", "not not not not(1)+(2)", "----(1)*(2)",
            "(((((1-2)))))", "----(1-2)", "not not not not not 1-2", "not not not not not 1 and not not not not not 2",
            "(((((1)))))or(((((2)))))", "-----1*-----2", "-----1--(-(-2))", "((((1)+(2))+(3))+(4))", "(((((1)+2)-3)-4)-5)-(((((6)))))",
            "(((((1)))-((2))))"};
        for (String e : five) {
            run("7: 5 open by " + e, "text 1 char " + e + ";pull " + e + ";stand 3;");
            run("7: 5 open at the end by " + e, "text 1 char 1;pull 2;stand " + e + ";");
        }
        String[] six = {"(((((^(1))))))", "not not not not not ^not 1", "-----^-1", "not not not not not^(1)", "not not not not-^(1)",
            "not not not not not ^-1", "-----^(1)", "(((((^-1)))))", "(((((^not 1)))))", "(((((1 and ^not 2)))))", "(((((1-^-2)))))",
            "(((((1+ ^-2)))))", "(((((1*^(2))))))", "not -(-(^-1))", "not not(-(^-1))", "not not not not not 1*^(2)", "not(not(-^(1)))",
            "----(1*^-2)", "(((((1<^-2)))))", "(((((1)))-(((^-(2)))))", "(((((^(", "-----^(", "-----^-", "not not not not not ^not"};
        for (String e : six) {
            run("7: 6 open by " + e, "fault char " + e + ";pull 2;stand 3;");
            run("7: 6 open in pull by " + e, "fault char (((((1)))));pull " + e + ";stand 3;");
            run("7: 6 open in stand by " + e, "fault char 1;pull 2;stand " + e + ";");
        }
        run("7: what a FAULT leaves open is open no more", "fault char (((((^", "text 1 char (((((1)))));pull -----1;stand 3;",
            "fault char not -(-(^-1))", "text 2 char not -(-(1));pull not not not not not 1;stand 3;");
        run("7: 5 open at the text's end", "fault char (((((^");
        run("7: 6 open at the text's end", "fault char (((((^(");
        run("7: 5 are open, a ) is missing", "fault char (((((1))))^;pull 2;stand 3;");
        run("7: 5 are open, a ) too many", "fault char (((((1)))))^);pull 2;stand 3;");
    }

    private void fullOfTexts() {
        StringBuilder lines = new StringBuilder();
        for (int t = 1; t <= 5; t++) {
            lines.append("text " + t + " " + LAW + "\n");
        }
        run("7: 6 TEXTS", lines.toString(), """
            count(7) 6
            text() -4
            // by an empty TAPE; then by a text, by a FAULT
            count(9) 0
            text -4 char 1;pull 2;stand 3;
            count(9) 22
            text -4 ?
            count(9) 23
            text() -4
            count(9) 23
            count(7) 6
            force(5) 0
            force(6) -2
            force(0) 5
            force(-1) -2
            """);
        run("7: 6 TEXTS and a full TAPE", lines.toString(), "feed(0, 8)\n".repeat(20), """
            feed(0, 1) -4
            text() -4
            count(9) 160
            feed(0, 1) -4
            text() -4
            """);
        run("7: a FAULT is no TEXT", lines.toString().substring(0, lines.indexOf("text 5")), """
            count(7) 5
            text -100 ?
            count(7) 5
            text -105 char ;
            text 5 char 1;pull 2;stand 5;
            text -4 char 1;pull 2;stand 6;
            force(5) 0
            asks(2, 0, 0, 0) 5
            """);
    }

    // ---- promises 8 and 9

    private void law() {
        run("8: the TEXTS that there are", """
            force(0) 0
            force(1) -2
            force(-1) -2
            text 1 char 1;pull 2;stand 3;
            force(2) -2
            force(1) 0
            force(1) 1
            count(8) 1
            force(2) -2
            force(MIN) -2
            force(MAX) -2
            force(0) 1
            count(8) 0
            """);
        run("9: the edges of its numbers", """
            asks(-1, 0, 0, 0) -2
            asks(0, 0, 0, 0) 2
            asks(2, 0, 0, 0) 15
            asks(3, 0, 0, 0) -2
            asks(1, -1, 0, 0) -2
            asks(1, 0, 0, 0) 0
            asks(1, 20, 0, 0) 40
            asks(1, 21, 0, 0) -2
            asks(1, 0, -1, 0) -2
            asks(1, 0, 198, 0) 198
            asks(1, 0, 199, 0) -2
            asks(1, 0, 0, -1) -2
            asks(1, 0, 0, 1) 9
            asks(1, 0, 0, 2) -2
            asks(1, 20, 198, 1) 247
            """);
        run("9: TEXT 0 by SAP and HEAT", """
            // SAP as much as HEAT, one less, one more
            set(2, 5) 3
            asks(0, 8, 20, 0) 1
            set(2, 4) 5
            asks(0, 8, 20, 0) 2
            set(2, 6) 4
            asks(0, 8, 20, 0) 1
            set(0, 0) 5
            asks(2, 8, 20, 0) 0
            set(0, 9) 0
            asks(2, 8, 20, 0) 27
            """);
    }

    private void bounds() {
        run("9: CHAR, PULL, STAND at their bounds", """
            text 1 char thick - 1;pull wide * 10 - 1;stand 1000 - wide * 10;
            force(1) 0
            asks(0, 0, 0, 0) 0
            asks(0, 1, 0, 0) 0
            asks(0, 2, 0, 0) 1
            asks(0, 9, 0, 0) 8
            asks(0, 10, 0, 0) 9
            asks(0, 11, 0, 0) 9
            asks(0, 20, 0, 0) 9
            asks(1, 0, 0, 0) 0
            asks(1, 0, 1, 0) 9
            asks(1, 0, 99, 0) 989
            asks(1, 0, 100, 0) 999
            asks(1, 0, 101, 0) 999
            asks(1, 0, 198, 0) 999
            asks(2, 0, 0, 0) 999
            asks(2, 0, 1, 0) 990
            asks(2, 0, 99, 0) 10
            asks(2, 0, 100, 0) 0
            asks(2, 0, 101, 0) 0
            asks(2, 0, 198, 0) 0
            """);
        value("-1", 0);
        value("0", 0);
        value("999", 999);
        value("1000", 999);
        value("9999", 999);
        value("-9999", 0);
    }

    /** What PULL is by such an E. */
    private void value(String e, int due) {
        run("9: " + e, "text 1 char 1;pull " + e + ";stand 3;", "force(1) 0", "asks(1, 7, 100, 1) " + due);
    }

    private void wraps() {
        // 1024 * 1024 * 2048 is one more than the greatest int, and wraps to the least
        value("1024*1024*2048", 0);
        value("1024*1024*2048-1", 999);
        value("1024*1024*2048+7", 0);
        value("-(1024*1024*2048)", 0);
        value("-(1024*1024*2048)-1", 999);
        value("1024*1024*2047+1024*1024-1", 999);
        value("1024*1024*2047+1024*1024", 0);
        value("0-1024*1024*2048", 0);
        value("-1024*1024*2048", 0);
        value("-1-1024*1024*2048", 999);
        value("-2-1024*1024*2048", 999);
        value("1024*1024*4096", 0);
        value("1024*1024*4096+5", 5);
        value("1024*1024*4096*9999+998", 998);
        // 99980001 * 43 is 4172747 more than 2 to the 32
        value("9999*9999*43-9999*417-3164+5", 5);
        value("1024*1024*2048<1", 1);
        value("1<1024*1024*2048", 0);
        value("1024*1024*2048-1<1024*1024*2048", 0);
        value("1024*1024*2048<1024*1024*2048-1", 1);
        value("1024*1024*4096=0", 1);
        value("1024*1024*2048=0", 0);
        value("not 1024*1024*4096", 1);
        value("not 1024*1024*2048", 0);
        value("1024*1024*4096 or 0", 0);
        value("1024*1024*2048 or 0", 1);
        value("1024*1024*2048 and 1", 1);
        value("1024*1024*4096 and 1", 0);
    }

    /** What such an E is, if that is -400 .. 599. */
    private void is(String e, int due) {
        value("(" + e + ")+400", due + 400);
    }

    private void truth() {
        is("not 0", 1);
        is("not 1", 0);
        is("not 2", 0);
        is("not -1", 0);
        is("0 or 0", 0);
        is("0 or 2", 1);
        is("2 or 0", 1);
        is("-1 or 0", 1);
        is("0 and 2", 0);
        is("2 and 0", 0);
        is("2 and -1", 1);
        is("2 and 4", 1);
        is("2<2", 0);
        is("2<3", 1);
        is("3<2", 0);
        is("2=2", 1);
        is("2=3", 0);
        is("-1<0", 1);
        is("not 2=3", 1);
        is("not 2<3", 0);
        is("not 0+1", 0);
        is("(not 0)+1", 2);
        is("not 1 or 1", 1);
        is("not (1 or 1)", 0);
        is("1 or 1 and 0", 1);
        is("0 and 1 or 1", 1);
        is("0 and (1 or 1)", 0);
        is("7-2-1", 4);
        is("7-(2-1)", 6);
        is("2+3*4", 14);
        is("2*3+4", 10);
        is("-2*3+9", 3);
        is("-2+9", 7);
        is("5--2", 7);
        is("--5", 5);
        is("1+1=2", 1);
        is("1<1+1", 1);
        is("thick", 7);
        is("wide", 100);
        is("knot", 1);
        is("heat*100+wind*10+sap", 503);
        is("0000", 0);
        is("0598", 598);
        is("2-9", -7);
        is("2-(3-9)", 8);
        is("-(2+3)", -5);
        is("not -400", 0);
        is("(2 or 0)+(0 and 2)+(not 2)+(2<1)+(2=1)", 1);
    }

    public static void main(String[] args) {
        EdgesLawTest test = new EdgesLawTest();
        test.tape();
        test.sizes();
        test.firstToken();
        test.midst();
        test.grammar();
        test.stands();
        test.eachByte();
        test.words();
        test.numbers();
        test.open();
        test.fullOfTexts();
        test.law();
        test.bounds();
        test.wraps();
        test.truth();
        test.check.end();
    }
}
