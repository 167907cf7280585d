/** Promises 6 to 9: the tape, texts and their faults, the law and what it asks. */
public final class LawTest {
    private final Check check = new Check("LawTest");

    private void promise6() {
        HollowedByFire x = new HollowedByFire();
        for (int n : new int[] {0, 9, -1, Hands.MIN, Hands.MAX}) {
            check.due("feed(1, " + n + ")", x.feed(1, n), -2);
        }
        check.due("feed 8", x.feed(-1L, 8), 8);
        check.due("feed 1", x.feed(0x4141414141414120L, 1), 9);
        check.due("counted", x.count(9), 9);
        for (int i = 0; i < 18; i++) {
            x.feed(0x2020202020202020L, 8);
        }
        check.due("153 bytes", x.count(9), 153);
        check.due("8 more are too many", x.feed(0, 8), -4);
        check.due("BAD ahead of FULL", x.feed(0, 9), -2);
        check.due("refused, nothing came", x.count(9), 153);
        check.due("7 more fit", x.feed(0, 7), 160);
        check.due("1 more is too many", x.feed(0, 1), -4);
        check.due("its first byte can't stand", x.text(), -100);
        check.due("empty then", x.count(9), 0);
        byteOrder();
    }

    private void byteOrder() {
        HollowedByFire x = new HollowedByFire();
        // "char", then the lowest 3 of 8 bytes: " 7;"
        check.due("feed char", x.feed(0x63686172L, 4), 4);
        check.due("feed the lowest", x.feed(0x3939393939203739L << 8 | 0x3bL, 4), 8);
        check.due("feed pull", x.feed(0x70756c6c20343bL, 7), 15);
        check.due("feed stand", x.feed(0x7374616e642035L, 7), 22);
        check.due("feed the end", x.feed(0x3b, 1), 23);
        check.due("text", x.text(), 1);
        x.force(1);
        check.due("char 79 is above its bound", x.asks(0, 0, 0, 0), 9);
        check.due("pull 4", x.asks(1, 0, 0, 0), 4);
        check.due("stand 5", x.asks(2, 0, 0, 0), 5);
    }

    private void fault(String text, int place) {
        HollowedByFire x = new HollowedByFire();
        check.due("text \"" + text + "\"", Hands.text(x, text), -100 - place);
        check.due("THE TAPE is empty then", x.count(9), 0);
        check.due("no TEXT came", x.count(7), 1);
    }

    private void isText(String text) {
        check.due("text \"" + text + "\"", Hands.text(new HollowedByFire(), text), 1);
    }

    private void promise7() {
        isText("char 1;pull 2;stand 3;");
        isText("  \n char\n1 ; pull 2;stand 3; \n ");
        isText("char9999;pull0;stand(3);");
        isText("char not not not not not 1;pull - - - - -1;stand(((((1)))));");
        isText("char (-(-(1)));pull not(not(-1));stand 1--1;");
        isText("char (1)*(1)*(1)*(1)*(1)*(1)*(1);pull -1+-1+-1+-1+-1+-1;stand not 1 and not 1 and not 1"
            + " and not 1 and not 1 or not 1;");
        isText("char 1<2 and 3=4 or not 5<6;pull heat*wind+sap-thick*knot-wide;stand 1;");
        faultsOfGrammar();
        faultsOfTokens();
        faultsOfDepth();
        texts();
    }

    private void faultsOfGrammar() {
        fault("", 0);
        fault("   ", 3);
        fault("char", 4);
        fault("char ", 5);
        fault("char 1", 6);
        fault("char 1;pull 2;stand 3", 21);
        fault("char 1;pull 2;stand 3 \n", 23);
        fault("char 1;pull 2;stand (3", 22);
        fault("char 1;pull 2;stand 3;;", 22);
        fault("char 1;pull 2;stand 3; char", 23);
        fault("pull 1;pull 2;stand 3;", 0);
        fault("char 1;stand 2;pull 3;", 7);
        fault("char ;pull 2;stand 3;", 5);
        fault("char 1 2;pull 2;stand 3;", 7);
        fault("char 1<2<3;pull 2;stand 3;", 8);
        fault("char 1<2=3;pull 2;stand 3;", 8);
        fault("char 1+not 2;pull 2;stand 3;", 7);
        fault("char 1 < not 2;pull 2;stand 3;", 9);
        fault("char -not 2;pull 2;stand 3;", 6);
        fault("char + 1;pull 2;stand 3;", 5);
        fault("char 1 * ;pull 2;stand 3;", 9);
        fault("char (1;pull 2;stand 3;", 7);
        fault("char 1);pull 2;stand 3;", 6);
        fault("char ();pull 2;stand 3;", 6);
        fault("char and;pull 2;stand 3;", 5);
        fault("char 1 or;pull 2;stand 3;", 9);
        fault("char char;pull 2;stand 3;", 5);
        fault("char heat wind;pull 2;stand 3;", 10);
        fault("char not;pull 2;stand 3;", 8);
    }

    private void faultsOfTokens() {
        fault("Char 1;", 0);
        fault("char 1?;pull 2;stand 3;", 6);
        fault("char ? 1;", 5);
        fault("char 1;pull 2;stand 3;?", 22);
        fault("char heats;", 5);
        fault("char hea;", 5);
        fault("charheat;", 0);
        fault("chars 1;", 0);
        fault("char heat1;", 9);
        fault("char 1heat;", 6);
        fault("char 10000;", 5);
        fault("char 00001;", 5);
        fault("char 1;pull 2;stand 99999999999999999999;", 20);
        fault("char\t1;", 4);
        fault("char 1" + (char) 233 + ";", 6);
        fault("char" + (char) 0 + "1;", 4);
        fault("char 1;pull 2;stand 3;" + (char) 255, 22);
        fault("char 1;pull 2;stand 3;" + (char) 0, 22);
        fault("char 1;pull 2;stand 3; " + (char) 7, 23);
        fault("char >1;", 5);
    }

    private void faultsOfDepth() {
        fault("char ((((((1))))));", 10);
        fault("char not not not not not not 1;", 25);
        fault("char ------1;", 10);
        fault("char (not(-(-1)));", 12);
        fault("char not (not (- -1));", 17);
        fault("char 1;pull -(-(-1));stand not (- (not 1 + (2)));", 43);
        fault("char 1;pull -(-(-1));stand not (- (1 + (-2)));", 40);
        isText("char -(-(-1));pull not (- (1 + (2)));stand not not (- (2));");
        // what has ended is open no more
        isText("char ((((1)+(2)))+(3))*(((((4)))))+-1+(-(-1));pull not (1) and not not not (2) or ((3));stand -1;");
        isText("char (((((1)))))-(((((1)))))-(((((1)))));pull -----1*-----1 - -----1;stand 3;");
        isText("char not not not not not 1 and not not not not not 2;pull 1;stand 3;");
        fault("char not 1 and not not not not not not 2;pull 1;stand 3;", 35);
        // a - between two isn't ahead of a ONE
        isText("char (((((1-2-3)))));pull ((((-1-2))));stand 3;");
        fault("char (((((1- -2)))));", 13);
    }

    private void texts() {
        HollowedByFire x = new HollowedByFire();
        for (int t = 1; t < 6; t++) {
            check.due("text " + t, Hands.text(x, "char 1;pull 2;stand " + t + ";"), t);
        }
        check.due("6 TEXTS", x.count(7), 6);
        check.due("FULL", Hands.text(x, "char 1;pull 2;stand 3;"), -4);
        check.due("THE TAPE stays", x.count(9), 22);
        check.due("FULL ahead of the FAULT", Hands.text(x, "?"), -4);
        check.due("THE TAPE stays then, too", x.count(9), 23);
        x.force(5);
        check.due("the texts are their own", x.asks(2, 0, 0, 0), 5);
    }

    private void promise8() {
        HollowedByFire x = new HollowedByFire();
        check.due("THE LAW at first", x.count(8), 0);
        Hands.text(x, "char 1;pull 2;stand 3;");
        check.due("a TEXT is not yet THE LAW", x.count(8), 0);
        check.due("force(1)", x.force(1), 0);
        check.due("force(1) again", x.force(1), 1);
        check.due("force(2)", x.force(2), -2);
        check.due("force(-1)", x.force(-1), -2);
        check.due("force(6)", x.force(6), -2);
        check.due("force least", x.force(Hands.MIN), -2);
        check.due("force most", x.force(Hands.MAX), -2);
        check.due("THE LAW", x.count(8), 1);
        check.due("force(0)", x.force(0), 1);
        check.due("by TEXT 0", x.asks(1, 8, 20, 1), 45);
    }

    /** What char, pull and stand are by such an expression. */
    private void value(String e, int want) {
        HollowedByFire x = Hands.under("char 1;pull (" + e + ") + 400;stand 3;");
        check.due(e, x.asks(1, 7, 100, 1), want + 400);
    }

    private void promise9() {
        HollowedByFire x = new HollowedByFire();
        check.due("char", x.asks(0, 0, 0, 0), 2);
        check.due("pull", x.asks(1, 20, 198, 1), 247);
        check.due("stand", x.asks(2, 20, 198, 1), 15);
        x.set(2, 5);
        check.due("char when sap is heat", x.asks(0, 1, 1, 1), 1);
        x.set(0, 9);
        check.due("stand by heat", x.asks(2, 0, 0, 0), 27);
        int[][] bad = {{-1, 0, 0, 0}, {3, 0, 0, 0}, {0, -1, 0, 0}, {0, 21, 0, 0}, {0, 0, -1, 0}, {0, 0, 199, 0},
            {0, 0, 0, -1}, {0, 0, 0, 2}, {Hands.MAX, 0, 0, 0}, {0, Hands.MIN, 0, 0}, {0, 0, Hands.MAX, 0}};
        for (int[] b : bad) {
            check.due("asks of a wrong number", x.asks(b[0], b[1], b[2], b[3]), -2);
        }
        HollowedByFire names = Hands.under("char wind;pull heat*100+wind*10+sap;stand thick*20+knot*400+wide;");
        names.set(0, 1);
        names.set(1, 4);
        names.set(2, 7);
        check.due("wind", names.asks(0, 0, 0, 0), 4);
        check.due("heat wind sap", names.asks(1, 0, 0, 0), 147);
        check.due("thick knot wide", names.asks(2, 3, 5, 1), 465);
        bounds();
        values();
    }

    private void bounds() {
        HollowedByFire x = Hands.under("char thick-1;pull 994+thick;stand 5-thick;");
        check.due("char 0", x.asks(0, 0, 0, 0), 0);
        check.due("char 9", x.asks(0, 10, 0, 0), 9);
        check.due("char 10", x.asks(0, 11, 0, 0), 9);
        check.due("pull 999", x.asks(1, 5, 0, 0), 999);
        check.due("pull 1000", x.asks(1, 6, 0, 0), 999);
        check.due("stand 0", x.asks(2, 5, 0, 0), 0);
        check.due("stand -1", x.asks(2, 6, 0, 0), 0);
    }

    private void values() {
        value("2+3*4", 14);
        value("(2+3)*4", 20);
        value("20-3-4", 13);
        value("20-(3-4)", 21);
        value("-3+10", 7);
        value("-3*-4", 12);
        value("10--3", 13);
        value("5*(not 1)+3", 3);
        value("1<2", 1);
        value("2<2", 0);
        value("2=2", 1);
        value("2=3", 0);
        value("1+1<1+2", 1);
        value("not 0", 1);
        value("not 7", 0);
        value("not not 7", 1);
        value("not 1=2", 1);
        value("not 1<2 or 1", 1);
        value("not 1 and 0", 0);
        value("not (1 and 0)", 1);
        value("0 and 0 or 1", 1);
        value("1 or 0 and 0", 1);
        value("(1 or 0) and 0", 0);
        value("7 and 9", 1);
        value("0-2 and 4", 1);
        value("0 or 0", 0);
        value("0 and 0", 0);
        value("0 and 3", 0);
        value("3 and 0", 0);
        value("3-10", -7);
        value("-300", -300);
        value("0 or 9", 1);
        value("5+(3 or 0)", 6);
        value("thick*thick+wide+knot", 150);
        wraps();
    }

    private void wraps() {
        // 9999 * 9999 * 9999 is -1027349969 in 32 bits
        value("9999*9999*9999 < 0", 1);
        value("0-9999*9999*9999 < 0", 0);
        value("9999*9999*9999 + 9999*9999*10 + 9999*2755 + 2714", 0);
        value("9999*9999*9999 + 9999*9999*10 + 9999*2755 + 2720", 6);
        value("1024*1024*4096", 0);
        value("1024*1024*4096+5", 5);
        value("1024*1024*2048 < 0", 1);
        value("-(1024*1024*2048) < 0", 1);
        value("-(1024*1024*2048) = 1024*1024*2048", 1);
        value("1024*1024*2048-1 < 0", 0);
        value("1024*1024*2048-1+1 < 0", 1);
        value("1024*1024*2048 or 0", 1);
        value("not (1024*1024*2048)", 0);
    }

    public static void main(String[] args) {
        LawTest test = new LawTest();
        test.promise6();
        test.promise7();
        test.promise8();
        test.promise9();
        test.check.end();
    }
}
