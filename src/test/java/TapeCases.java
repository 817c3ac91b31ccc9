/** Promises 16 and 17: the tape, the tokens on it, and how many texts there may be. */
final class TapeCases extends Cases {
    TapeCases(Check check) {
        super(check);
    }

    @Override
    void work() {
        feed();
        tapeFull();
        bytesFed();
        tapeEmptied();
        textsFull();
        longTapes();
        bytesBehindNumber();
        bytesAheadOfOne();
        bytesBehindName();
        numbers();
        words();
    }

    private void feed() {
        says(16, "how many it has. BAD: n is not 1 .. 8. FULL.");
        taken("n 1", x -> x.feed(1, ';'), 6, x -> x.count(6), 6);
        taken("n 8", x -> x.feed(8, 0), 13, x -> x.count(6), 13);
        outside("n", 1, 8, (x, n) -> x.feed(n, ';'), BAD);
        takenOn(NEW, "the first byte", x -> x.feed(1, 0), 1, x -> x.count(6), 1);
    }

    private void tapeFull() {
        says(16, "THE TAPE (160 bytes at most)");
        River of159 = Rivers::withTapeOf159;
        River of153 = Rivers::withTapeOf153;
        River full = Rivers::withFullTape;
        takenOn(of159, "159 and 1", x -> x.feed(1, ' '), 160, x -> x.count(6), 160);
        refusedOn(of159, "159 and 2", x -> x.feed(2, ' '), FULL);
        refusedOn(of159, "159 and 8", x -> x.feed(8, 0), FULL);
        takenOn(of153, "153 and 7", x -> x.feed(7, 0), 160, x -> x.count(6), 160);
        refusedOn(of153, "153 and 8", x -> x.feed(8, 0), FULL);
        refusedOn(full, "160 and 1", x -> x.feed(1, ' '), FULL);
        refusedOn(full, "160 and 8", x -> x.feed(8, 0), FULL);
        outsideOn(full, "BAD ahead of FULL: n", 1, 8, (x, n) -> x.feed(n, 0), BAD);
        outsideOn(of159, "BAD ahead of FULL with one left: n", 1, 8, (x, n) -> x.feed(n, 0), BAD);
        takenOn(full, "room again behind a text", x -> x.text(), -100 - 160, x -> x.feed(8, 0), 8);
    }

    private void bytesFed() {
        says(16, "The n lowest bytes of a number, the lowest first, come behind THE TAPE");
        // ";cut 0;" from its last byte to its first
        taken("the lowest first", x -> x.feed(7, 0x3b30207475633bL), 12, x -> x.text(), 2);
        taken("what is above n does not come", x -> x.feed(7, 0x7f3b30207475633bL), 12, x -> x.text(), 2);
        taken("the highest of eight comes", x -> x.feed(8, 0x3f3b30207475633bL), 13, x -> x.text(), -112);
        taken("a number below 0", x -> x.feed(1, -256 + ';'), 6, x -> x.text(), -106);
        taken("a byte of 255", x -> x.feed(1, -1), 6, x -> x.text(), -105);
        taken("a byte of 0", x -> x.feed(1, 0), 6, x -> x.text(), -105);
        taken("behind the tape, not in its place", x -> x.feed(1, '2'), 6, x -> Rivers.text(x, ";cut 0;"), 2);
    }

    private void tapeEmptied() {
        says(17, "THE TAPE, which is empty then (by a FAULT, too), is a TEXT: its number; -100 less the place of its FAULT.");
        taken("empty behind a text", x -> Rivers.text(x, ";cut 0;"), 2, x -> x.count(6), 0);
        taken("empty behind a fault", x -> Rivers.text(x, ";cat 0;"), -106, x -> x.count(6), 0);
        taken("an empty tape", x -> Rivers.text(x, ";cut 0;"), 2, x -> x.text(), -100);
        taken("a fault takes no number", x -> x.text(), -105, x -> Rivers.text(x, "may 1;cut 1;"), 2);
        taken("a fault changes no text", x -> x.text(), -105, x -> x.says(1, 0, 1), 7);
        taken("a text is none of a state's yet", x -> Rivers.text(x, ";cut 0;"), 2, x -> x.count(8), 1);
        taken("what stood behind it is gone", x -> Rivers.text(x, ";cut 0;zzzzzzzz"), -112, x -> Rivers.text(x, "may"), -103);
        due("numbered from 1, for there is text 0", text("may 1;cut 0;"), 1);
    }

    private void textsFull() {
        says(17, "There are 6 TEXTS at most, TEXT 0 with them.");
        RiverCompact x = new RiverCompact();
        for (int i = 1; i < 5; i++) {
            Rivers.text(x, "may 1;cut 0;");
        }
        due("five, and a fault", Rivers.text(x, "may"), -103);
        due("the last that has room", Rivers.text(x, "may 1;cut 44;"), 5);
        due("the first that has none", Rivers.text(x, "may 1;cut 55;"), FULL);
        due("how many", x.count(5), 6);
        x.hold(HOLD, 0, 0, 1, 1);
        x.rule(0, 5);
        due("the sixth is as it was told", x.says(0, 0, 1), 44);
        says(17, "FULL (ahead of all): no TEXT more has room (THE TAPE stays).");
        due("the tape stays", x.count(6), 13);
        refusedOn(Rivers::fullOfTexts, "full", y -> y.text(), FULL);
        refusedOn(Rivers::fullOfTextsWithFault, "full ahead of a fault", y -> y.text(), FULL);
        RiverCompact y = Rivers.fullOfTexts();
        y.text();
        due("asked twice, the tape stays", y.count(6), 12);
        due("full", y.text(), FULL);
        RiverCompact z = new RiverCompact();
        for (int i = 1; i < 6; i++) {
            Rivers.text(z, "may 1;cut 0;");
        }
        due("full ahead of an empty tape", z.text(), FULL);
        due("it is empty as it was", z.count(6), 0);
    }

    /** Words and as many blanks ahead of them as make them n bytes. */
    private static String padded(String words, int n) {
        StringBuilder all = new StringBuilder();
        while (all.length() + words.length() < n) {
            all.append(' ');
        }
        return all.append(words).toString();
    }

    private void longTapes() {
        says(17, "the text's size, if it ends too early");
        String whole = "may 1;cut 2;";
        int[] faults = {0, 0, 0, 3, 4, 5, 6, 6, 6, 9, 10, 11};
        for (int size = 0; size < faults.length; size++) {
            fault(whole.substring(0, size), faults[size]);
        }
        stands(whole);
        fault(" ", 1);
        fault("\n \n", 3);
        fault("may 1;cut 2 \n", 13);
        fault("may -", 5);
        fault("may not", 7);
        fault("may (", 5);
        fault("may (1", 6);
        fault("may 1+", 6);
        fault("may 1<", 6);
        fault("may 1 or", 8);
        says(17, "A TEXT is read from THE TAPE (160 bytes at most).");
        stands(padded(whole, 160));
        stands("may 1;" + padded("cut 2;", 154));
        fault(padded("may 1;cut 2", 160), 160);
        fault(padded("may 1;cut 2", 159), 159);
        fault(padded("may 1;cut 2;;", 160), 159);
        fault(padded("may 1;cut 2?", 160), 159);
        fault(padded("may", 160), 160);
        fault(padded("", 160), 160);
        fault(padded("1", 160), 159);
        fault("a".repeat(160), 0);
        fault("1".repeat(160), 0);
        fault(";".repeat(160), 0);
        fault("may 1" + "+1".repeat(77) + "+", 160);
        stands("may 1" + "+1".repeat(74) + ";cut 2;");
    }

    /** Where the fault is of one byte behind "may 1" and ahead of ";cut 0;", or NONE. */
    private static int faultBehindNumber(int b) {
        if (b >= '0' && b <= '9' || b == ' ' || b == '\n') {
            return NONE;
        }
        return ";+-*<=".indexOf(b) >= 0 ? 6 : 5;
    }

    private void bytesBehindNumber() {
        says(17, "SIGNS ( ) ; + - * < = ; blanks (32, 10) may stand between");
        for (int b = 0; b < 256; b++) {
            int place = faultBehindNumber(b);
            due("byte " + b + " behind a number", text("may 1" + (char) b + ";cut 0;"), place < 0 ? 1 : -100 - place);
        }
        stands("may1;cut0;");
        stands("\n \nmay\n\n1 ;\n cut 0\n;  \n");
        stands("may 1or 2and 3<4;cut 0;");
        fault("may 1 ; cut 0 ; ?", 16);
        fault("? may 1;cut 0;", 0);
    }

    private void bytesAheadOfOne() {
        says(17, "also of a byte that begins none");
        for (int b = 0; b < 256; b++) {
            boolean isNumber = b >= '0' && b <= '9';
            int place = " \n(-".indexOf(b) >= 0 ? 5 : 4;
            due("byte " + b + " in a number's place", text("may " + (char) b + ";cut 0;"), isNumber ? 1 : -100 - place);
        }
    }

    private static int faultBehindName(int b) {
        if (b == ' ' || b == '\n') {
            return NONE;
        }
        if (b >= 'a' && b <= 'z') {
            return 4;
        }
        return ";+-*<=".indexOf(b) >= 0 ? 9 : 8;
    }

    private void bytesBehindName() {
        says(17, "TOKENS, each as long as can be: WORDS (a .. z)");
        for (int b = 0; b < 256; b++) {
            int place = faultBehindName(b);
            due("byte " + b + " behind a name", text("may read" + (char) b + ";cut 0;"), place < 0 ? 1 : -100 - place);
        }
        fault("may readread;cut 0;", 4);
        fault("mayread;cut 0;", 0);
        fault("may notread;cut 0;", 4);
        stands("may 1 or2and3;cut 0;");
        fault("may re ad;cut 0;", 4);
        fault("ma y 1;cut 0;", 0);
        stands("may not(read);cut-read;");
    }

    private void numbers() {
        says(17, "NUMBERS (as many digits as stand there, 4 at most)");
        String[] good = {"0", "9", "10", "99", "100", "999", "1000", "9999", "0000", "0009"};
        for (String number : good) {
            stands("may " + number + ";cut " + number + ";");
        }
        fault("may 10000;cut 0;", 4);
        fault("may 00000;cut 0;", 4);
        fault("may 99999;cut 0;", 4);
        fault("may 1;cut 12345;", 10);
        fault("may 1;cut 123456789;", 10);
        fault("may 12345", 4);
        fault("may 1+12345;cut 0;", 6);
        fault("may 1234 5;cut 0;", 9);
        fault("may 1;cut 0;12345", 12);
        stands("may 1234\n;cut 0;");
        says(17, "a NUMBER that is too long");
        fault("may (12345", 5);
        fault("may -12345;cut 0;", 5);
        fault("may read12345;cut 0;", 8);
        fault("12345", 0);
    }

    private void words() {
        says(17, "NAMES are month year rank level read state; may, cut, or, and, not are KEYS.");
        String[] names = {"month", "year", "rank", "level", "read", "state"};
        for (String name : names) {
            stands("may " + name + ";cut " + name + ";");
            fault("may " + name.substring(1) + ";cut 0;", 4);
            fault("may " + name.substring(0, name.length() - 1) + ";cut 0;", 4);
            fault("may " + name + "s;cut 0;", 4);
            fault("may " + name.substring(0, name.length() - 1) + "z;cut 0;", 4);
            fault("may z" + name.substring(1) + ";cut 0;", 4);
            fault("may 1 " + name + ";cut 0;", 6);
            fault(name + " 1;cut 0;", 0);
        }
        String[] keys = {"may", "cut", "or", "and"};
        for (String key : keys) {
            fault("may " + key + ";cut 0;", 4);
            fault("may 1+" + key + ";cut 0;", 6);
        }
        fault("may 1+not 1;cut 0;", 6);
        fault("may 1 not;cut 0;", 6);
        fault("may 1 may;cut 0;", 6);
        fault("may 1 cut;cut 0;", 6);
        fault("cut 1;cut 0;", 0);
        fault("may 1;may 0;", 6);
        says(17, "a WORD that is neither KEY nor NAME");
        fault("a 1;cut 0;", 0);
        fault("mays 1;cut 0;", 0);
        fault("my 1;cut 0;", 0);
        fault("may 1;cuts 0;", 6);
        fault("may 1;cu 0;", 6);
        fault("may 1 o 1;cut 0;", 6);
        fault("may 1 ore 1;cut 0;", 6);
        fault("may 1 an 1;cut 0;", 6);
        fault("may no 1;cut 0;", 4);
        fault("may note 1;cut 0;", 4);
        fault("MAY 1;cut 0;", 0);
        fault("may 1;cut 0;x", 12);
    }
}
