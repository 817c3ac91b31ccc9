/** Promises 17 to 19: how a text is built, whose it is, what it says. */
final class TextCases extends Cases {
    TextCases(Check check) {
        super(check);
    }

    @Override
    void work() {
        parts();
        rows();
        comparisons();
        ones();
        firstFault();
        fiveOpen();
        closedAgain();
        mixedOpen();
        rule();
        parts01();
        names();
        levels();
        ints();
        truths();
        order();
    }

    private void parts() {
        says(17, "TEXT: may E ; cut E ;");
        stands("may 1;cut 0;");
        fault("1;cut 0;", 0);
        fault("may;cut 0;", 3);
        fault("may 1 cut 0;", 6);
        fault("may 1;0;", 6);
        fault("may 1;;", 6);
        fault("may 1;cut;", 9);
        fault("may 1;cut 0 0;", 12);
        fault("may 1;cut 0;;", 12);
        fault("may 1;cut 0;may 1;cut 0;", 12);
        fault("cut 0;may 1;", 0);
        fault("may 1;cut 0;0", 12);
        fault(";may 1;cut 0;", 0);
    }

    private void rows() {
        says(17, "E: AND { or AND }. AND: NOT { and NOT }.");
        stands("may 1 or 2;cut 0;");
        stands("may 1 or 2 or 3 or 4;cut 1 or 2;");
        stands("may 1 and 2 and 3 and 4;cut 1 and 2;");
        stands("may 1 or 2 and 3 or not 4;cut 0;");
        fault("may or 1;cut 0;", 4);
        fault("may and 1;cut 0;", 4);
        fault("may 1 or;cut 0;", 8);
        fault("may 1 and;cut 0;", 9);
        fault("may 1 or or 2;cut 0;", 9);
        fault("may 1 or and 2;cut 0;", 9);
        fault("may 1 and or 2;cut 0;", 10);
        says(17, "SUM: TERM { + or - TERM }. TERM: ONE { * ONE }.");
        stands("may 1+2-3+4-5;cut 1*2*3*4;");
        stands("may 1--2;cut 1*-2;");
        stands("may 1+-2;cut 1---2;");
        fault("may +1;cut 0;", 4);
        fault("may *1;cut 0;", 4);
        fault("may 1+;cut 0;", 6);
        fault("may 1-;cut 0;", 6);
        fault("may 1*;cut 0;", 6);
        fault("may 1++2;cut 0;", 6);
        fault("may 1-+2;cut 0;", 6);
        fault("may 1**2;cut 0;", 6);
        fault("may 1*+2;cut 0;", 6);
    }

    private void comparisons() {
        says(17, "NOT: not NOT, or SUM, perhaps < or = and a SUM.");
        stands("may not 1;cut not not 1;");
        stands("may 1<2;cut 1=2;");
        stands("may not 1<2;cut not 1=2;");
        stands("may 1<2 and 2<3 or 3=4;cut (1<2)<3;");
        fault("may 1<2<3;cut 0;", 7);
        fault("may 1=2=3;cut 0;", 7);
        fault("may 1<2=3;cut 0;", 7);
        fault("may 1=2<3;cut 0;", 7);
        fault("may <1;cut 0;", 4);
        fault("may =1;cut 0;", 4);
        fault("may 1<;cut 0;", 6);
        fault("may 1=;cut 0;", 6);
        fault("may 1<=2;cut 0;", 6);
        fault("may 1==2;cut 0;", 6);
        fault("may 1<not 2;cut 0;", 6);
        fault("may 1=not 2;cut 0;", 6);
        fault("may not;cut 0;", 7);
        fault("may not or;cut 0;", 8);
        fault("may not and 1;cut 0;", 8);
        fault("may not <1;cut 0;", 8);
        fault("may 1 or not;cut 0;", 12);
    }

    private void ones() {
        says(17, "ONE: a NUMBER, a NAME, - ONE, ( E ).");
        stands("may (1 or 2);cut (not 1);");
        stands("may -(1<2);cut -read;");
        stands("may ((1)+(2))*(3);cut 0;");
        fault("may ();cut 0;", 5);
        fault("may );cut 0;", 4);
        fault("may 1);cut 0;", 5);
        fault("may (1;cut 0;", 6);
        fault("may (1));cut 0;", 7);
        fault("may (1;cut 0);", 6);
        fault("may (1 2);cut 0;", 7);
        fault("may 1(2);cut 0;", 5);
        fault("may (1)2;cut 0;", 7);
        fault("may (1)(2);cut 0;", 7);
        fault("may read(1);cut 0;", 8);
        fault("may -;cut 0;", 5);
        fault("may -not 1;cut 0;", 5);
        fault("may -+1;cut 0;", 5);
        fault("may 1*not 2;cut 0;", 6);
        fault("may (or 1);cut 0;", 5);
    }

    private void firstFault() {
        says(17, "FAULT: the place of the first byte of the first TOKEN that can't stand there");
        fault("may 1 2 ?;cut 0;", 6);
        fault("may ? 12345;cut 0;", 4);
        fault("may 12345 ?;cut 0;", 4);
        fault("may zz 12345;cut 0;", 4);
        fault("may 1;cut +;?", 10);
        fault("  may  zz;cut 0;", 7);
        fault("may ((((( ( ?;cut 0;", 10);
        fault("may ((((( ? (;cut 0;", 10);
        fault("? ((((((", 0);
    }

    private void fiveOpen() {
        says(17, "a ( , a not, a - ahead of a ONE while 5 of these are open");
        stands("may (((((1)))));cut 0;");
        fault("may ((((((1))))));cut 0;", 9);
        stands("may 1;cut (((((1)))));");
        fault("may 1;cut ((((((1))))));", 15);
        stands("may not not not not not 1;cut 0;");
        fault("may not not not not not not 1;cut 0;", 24);
        stands("may -----1;cut 0;");
        fault("may ------1;cut 0;", 9);
        fault("may ((((( (", 10);
        fault("may ((((((", 9);
        fault("may -----", 9);
        fault("may ((((((((1))))))));cut 0;", 9);
        stands("may 1-----1;cut 0;");
        stands("may 1------1;cut 0;");
        fault("may 1-------1;cut 0;", 11);
        stands("may (((((1-1)))));cut (((((1+1*1)))));");
        fault("may (((((1--1)))));cut 0;", 11);
        fault("may (((((1+-1)))));cut 0;", 11);
        fault("may (((((1*-1)))));cut 0;", 11);
        fault("may (((((1<-1)))));cut 0;", 11);
        fault("may (((((1 or not 1)))));cut 0;", 14);
        says(17, "THE TAPE, which is empty then (by a FAULT, too)");
        RiverCompact x = new RiverCompact();
        due("a fault with five open", Rivers.text(x, "may (((((?"), -109);
        due("five are open anew", Rivers.text(x, "may (((((1)))));cut 0;"), 1);
        due("a fault of a sixth", Rivers.text(x, "may -----(1);cut 0;"), -109);
        due("five anew", Rivers.text(x, "may -----1;cut not not not not not 1;"), 2);
    }

    private void closedAgain() {
        says(17, "(a ( till its ) , not and - till what they belong to ends)");
        stands("may (((((1)))))+(((((1)))));cut (((((1)))));");
        stands("may -----1+-----1*-----1;cut -----1;");
        stands("may -----1<-----1;cut -----1 or -----1;");
        stands("may not not not not not 1 and not not not not not 1;cut 0;");
        stands("may not not not not not 1<2 or not not not not not 1;cut 0;");
        stands("may not not not not not 1+1*1 and -----1;cut 0;");
        fault("may not not not not not 1+-1;cut 0;", 26);
        fault("may not not not not not 1*(1);cut 0;", 26);
        fault("may not not not not not 1<-1;cut 0;", 26);
        fault("may not not not not not 1=(1);cut 0;", 26);
        stands("may ((((-1)+(1))));cut 0;");
        fault("may ((((-(1)))));cut 0;", 9);
        stands("may ----(1)-(1)--1;cut 0;");
        stands("may (not not not not 1 and not not not not 1);cut 0;");
        fault("may (not not not not 1 and not not not not not 1);cut 0;", 43);
        stands("may (((((1)))) or not (((1))));cut 0;");
        fault("may (((((1)))) or not ((((1)))));cut 0;", 25);
    }

    private void mixedOpen() {
        says(17, "while 5 of these are open");
        stands("may not(-(not 1));cut -(-(-1));");
        fault("may not(-(not -1));cut 0;", 14);
        fault("may not(-(not (1)));cut 0;", 14);
        fault("may not(-(not not 1));cut 0;", 14);
        fault("may -(-(-(1)));cut 0;", 9);
        fault("may -(-(--1));cut 0;", 9);
        fault("may (((((not 1)))));cut 0;", 9);
        fault("may (((((-1)))));cut 0;", 9);
        fault("may not not not not not (1);cut 0;", 24);
        fault("may not not not not not -1;cut 0;", 24);
        fault("may -----(1);cut 0;", 9);
        fault("may 1;cut -----(1);", 15);
    }

    private void rule() {
        says(18, "A TEXT is that of a STATE: which was. BAD.");
        taken("state 0", x -> x.rule(0, 1), 0, x -> x.count(7), 1);
        taken("state 3", x -> x.rule(3, 1), 0, x -> x.count(10), 1);
        outside("state", 0, 3, (x, n) -> x.rule(n, 1), BAD);
        taken("text 0", x -> x.rule(1, 0), 1, x -> x.count(8), 0);
        taken("the last text", x -> x.rule(2, 1), 0, x -> x.count(9), 1);
        outside("text", 0, 1, (x, n) -> x.rule(1, n), BAD);
        takenOn(Rivers::fullOfTexts, "the last of six", x -> x.rule(3, 5), 0, x -> x.count(10), 5);
        outsideOn(Rivers::fullOfTexts, "text of six", 0, 5, (x, n) -> x.rule(1, n), BAD);
        takenOn(NEW, "text 0 alone", x -> x.rule(3, 0), 0, x -> x.rule(3, 1), BAD);
        taken("which was, of the same", x -> x.rule(1, 1), 1, x -> x.count(8), 1);
        taken("other states stay", x -> x.rule(0, 1), 0, x -> x.count(9) + x.count(10), 0);
        taken("a text that a fault has is none", x -> x.text(), -105, x -> x.rule(0, 2), BAD);
        says(18, "TEXT 0, at first that of each STATE, is: may 1 ; cut 0 ;");
        for (int state = 0; state < 4; state++) {
            due("of state " + state, new RiverCompact().count(7 + state), 0);
        }
    }

    private void parts01() {
        says(19, "What a part (0 may, 1 cut) of its STATE's TEXT comes to for a HOLD in a MONTH. NO: none such.");
        due("text 0, may", Rivers.rich().says(0, 0, 0), 1);
        due("text 0, cut", Rivers.rich().says(0, 95, 1), 0);
        due("the last hold, may", Rivers.rich().says(5, 95, 0), 0);
        due("the last hold, may a month ahead", Rivers.rich().says(5, 94, 0), 1);
        due("the last hold, cut", Rivers.rich().says(5, 95, 1), 7);
        outside("hold", 0, 5, (x, n) -> x.says(n, 0, 0), NO);
        outside("month", 0, 95, (x, n) -> x.says(0, n, 0), NO);
        outside("part", 0, 1, (x, n) -> x.says(0, 0, n), NO);
        refusedOn(NEW, "no hold at all", x -> x.says(0, 0, 0), NO);
        refused("all of it wrong", x -> x.says(6, 96, 2), NO);
        due("though it is not in force", Rivers.rich().says(0, 95, 0), 1);
        due("though it is shut", Rivers.rich().says(0, 5, 0), 1);
        due("a cut above 100 as it is", worth("101", 0), 101);
        due("a cut below 0 as it is", worth("-1", 0), -1);
        due("a may of 2 as it is", mayOf("2"), 2);
    }

    /** What a cut comes to in a month for a ditch of state 3 and since 55, with a gauge of 123 and two lakes. */
    private static long worth(String words, int month) {
        RiverCompact x = new RiverCompact();
        x.lake(0, 5000, 300, 0, 100);
        x.lake(6, 5000, 70, 0, 0);
        x.gauge(1, month, 123);
        x.hold(DITCH, 3, 2, 40, 55);
        x.rule(3, Rivers.text(x, "may 1;cut " + words + ";"));
        return x.says(0, month, 1);
    }

    private static long mayOf(String words) {
        RiverCompact x = new RiverCompact();
        x.hold(HOLD, 0, 0, 0, 0);
        x.rule(0, Rivers.text(x, "may " + words + ";cut 0;"));
        return x.says(0, 0, 0);
    }

    private void names() {
        says(19, "Of a HOLD in a MONTH: month: MONTH OF THE YEAR; year; rank; level");
        int[] months = {0, 11, 12, 23, 24, 83, 84, 95};
        int[] ofYear = {0, 11, 0, 11, 0, 11, 0, 11};
        int[] years = {0, 0, 1, 1, 2, 6, 7, 7};
        for (int i = 0; i < months.length; i++) {
            due("month " + months[i] + " of the year", worth("month", months[i]), ofYear[i]);
            due("year of month " + months[i], worth("year", months[i]), years[i]);
        }
        due("rank", worth("rank", 0), 56);
        due("state 3", worth("state", 0), 3);
        due("read of the reach above", worth("read", 95), 123);
        RiverCompact x = new RiverCompact();
        x.hold(ANCIENT, 0, 0, 1, 0);
        x.rule(0, Rivers.text(x, "may rank;cut level+read+state;"));
        due("the least rank", x.says(0, 0, 0), -2000);
        due("no lake, no gauge, state 0", x.says(0, 0, 1), 0);
        x.hold(DITCH, 0, 0, 1, 9999);
        due("the greatest rank", x.says(1, 0, 0), 10000);
        due("the least rank, with another one behind it", x.says(0, 0, 0), -2000);
        due("asked for month 95", x.says(1, 95, 0), 10000);
        due("the least rank, in a month that was worked out", x.says(0, 3, 0), -2000);
    }

    private void levels() {
        says(19, "level: LEVELS of all LAKES as the MONTH begins, together; read: READ of its REACH; state.");
        due("as month 0 begins", worth("level", 0), 370);
        due("as month 1 begins, one has run into the other", worth("level", 1), 370);
        RiverCompact x = new RiverCompact();
        x.lake(6, 9999, 1000, 0, 10);
        x.hold(HOLD, 1, 0, 500, 0);
        x.rule(1, Rivers.text(x, "may level < 1000;cut level-960;"));
        due("of a lake below", x.says(0, 0, 0), 0);
        due("a month on", x.says(0, 1, 0), 1);
        due("what it says then", x.says(0, 1, 1), 30);
        due("as month 95 begins", x.says(0, 95, 1), 1000 - 950 - 960);
        x.side(6, 0, 70);
        due("what comes in the month is not in it yet", x.says(0, 0, 1), 40);
        due("it is a month on", x.says(0, 1, 1), 100);
        for (int reach = 0; reach < 6; reach++) {
            x.lake(reach, 99999, 99999, 0, 0);
        }
        due("seven lakes", x.says(0, 0, 1), 6 * 99999 + 40);
        due("they wrap nothing", x.takes(0, 0, 1), 0);
    }

    private void ints() {
        says(19, "An E is an int (32 bits, wrapping)");
        String least = "8192*8192*32";
        due("the least int", worth(least, 0), MIN);
        due("the greatest int", worth(least + "-1", 0), MAX);
        due("less 1 of the least", worth("(" + least + ")-1", 0), MAX);
        due("1 more than the greatest", worth("(" + least + "-1)+1", 0), MIN);
        due("- of the least", worth("-(" + least + ")", 0), MIN);
        due("- of the greatest", worth("-(" + least + "-1)", 0), MIN + 1);
        due("twice the least", worth("8192*8192*64", 0), 0);
        due("twice the greatest", worth("(" + least + "-1)*2", 0), -2);
        due("the least and itself", worth(least + "+" + least, 0), 0);
        due("0 less the least", worth("0-" + least, 0), MIN);
        due("four of the most", worth("9999*9999*9999*9999", 0), 9999 * 9999 * 9999 * 9999);
        due("the least is below the greatest", worth(least + "<" + least + "-1", 0), 1);
        due("the greatest is not below the least", worth(least + "-1<" + least, 0), 0);
        due("the least is like itself", worth(least + "=0-" + least, 0), 1);
        due("it is true", worth(least + " and 1", 0), 1);
        due("what wraps to 0 is not", worth("8192*8192*64 or 0", 0), 0);
    }

    private void truths() {
        says(19, "of or, and, not, <, = 1 or 0 (what is not 0 is true)");
        String[] ones = {"0", "1", "2", "-1"};
        for (int i = 0; i < 4; i++) {
            for (int j = 0; j < 4; j++) {
                due(ones[i] + " or " + ones[j], worth(ones[i] + " or " + ones[j], 0), i + j > 0 ? 1 : 0);
                due(ones[i] + " and " + ones[j], worth(ones[i] + " and " + ones[j], 0), i * j > 0 ? 1 : 0);
                due(ones[i] + "=" + ones[j], worth(ones[i] + "=" + ones[j], 0), i == j ? 1 : 0);
            }
            due("not " + ones[i], worth("not " + ones[i], 0), i == 0 ? 1 : 0);
            due(ones[i] + " by itself", worth(ones[i], 0), i == 3 ? -1 : i);
        }
        due("1 less than", worth("4<5", 0), 1);
        due("like", worth("5<5", 0), 0);
        due("1 more than", worth("6<5", 0), 0);
        due("below 0", worth("-1<0", 0), 1);
        due("0 and below", worth("0<-1", 0), 0);
        due("what a comparison comes to is a number", worth("(4<5)+(5=5)+(not 0)+(7 or 0)+(7 and 8)", 0), 5);
        due("three or, the last true", worth("0 or 0 or 7", 0), 1);
        due("three and, the last false", worth("7 and 7 and 0", 0), 0);
        due("three and", worth("7 and 7 and 7", 0), 1);
    }

    private void order() {
        says(19, "perhaps < or = and a SUM. SUM: TERM { + or - TERM }. TERM: ONE { * ONE }.");
        due("from the left", worth("10-3-2", 0), 5);
        due("from the left, of both", worth("10-3+2", 0), 9);
        due("terms first", worth("10-3*2", 0), 4);
        due("terms first, ahead", worth("3*2-10", 0), -4);
        due("brackets first", worth("(10-3)*2", 0), 14);
        due("- of one alone", worth("-2*3+1", 0), -5);
        due("- of a bracket", worth("-(2*3+1)", 0), -7);
        due("- of -", worth("1--2", 0), 3);
        due("five -", worth("-----3", 0), -3);
        due("comparison of sums", worth("1+1=4-2", 0), 1);
        due("not of a comparison", worth("not 1=2", 0), 1);
        due("not ahead of and", worth("not 0 and 0", 0), 0);
        due("not of a bracket", worth("not (0 and 0)", 0), 1);
        due("two not", worth("not not 9", 0), 1);
        due("five not", worth("not not not not not 9", 0), 0);
        due("and ahead of or", worth("1 or 1 and 0", 0), 1);
        due("and ahead of or, first", worth("0 and 1 or 1", 0), 1);
        due("brackets of or", worth("(1 or 1) and 0", 0), 0);
        due("numbers with 0 ahead", worth("0010", 0), 10);
        due("the most", worth("9999", 0), 9999);
    }
}
