/** Promises 26 to 29: what would be if a reserve were found, a hold sold, or a text that of all states. */
final class IfCases extends Cases {
    IfCases(Check check) {
        super(check);
    }

    @Override
    void work() {
        foundNumbers();
        foundFull();
        foundTakes();
        foundInAllMonths();
        foundAsOthers();
        foundBits();
        byLevel();
        sold();
        soldTakes();
        soldOthersAlone();
        soldInAllMonths();
        harm();
        harmTogether();
        unlikeNumbers();
        unlikeYears();
        unlikeStates();
    }

    /** 100 come to reach 0 in every month; one hold there is since 500. */
    private static RiverCompact oneHold(int n) {
        RiverCompact x = new RiverCompact();
        Rivers.always(x, 0, 100);
        x.hold(HOLD, 0, 0, n, 500);
        return x;
    }

    private void foundNumbers() {
        says(26, "HOLDS (bits) that would get less, IF a RESERVE were FOUND. BAD: as of hold(); FULL: 16 HOLDS.");
        River river = () -> oneHold(100);
        takenOn(river, "state 0", x -> x.found(0, 0, 1, 0), 1, x -> x.count(0), 1);
        takenOn(river, "state 3", x -> x.found(3, 0, 1, 0), 1, x -> x.count(0), 1);
        outside("state", 0, 3, (x, n) -> x.found(n, 0, 1, 0), BAD);
        takenOn(river, "reach 0", x -> x.found(0, 0, 1, 0), 1, x -> x.holdTold(0, 2), 0);
        takenOn(river, "reach 6", x -> x.found(0, 6, 1, 0), 0, x -> x.holdTold(0, 2), 0);
        outside("reach", 0, 6, (x, n) -> x.found(0, n, 1, 0), BAD);
        takenOn(river, "n 0", x -> x.found(0, 0, 0, 0), 0, x -> x.all(0, 0, 96), 9600);
        takenOn(river, "n 101, for it is no half", x -> x.found(0, 0, 101, 0), 1, x -> x.all(0, 0, 96), 9600);
        takenOn(river, "n 9999", x -> x.found(0, 0, 9999, 0), 1, x -> x.all(0, 0, 96), 9600);
        outside("n", 0, 9999, (x, n) -> x.found(0, 0, n, 0), BAD);
        takenOn(river, "since 0", x -> x.found(0, 0, 1, 0), 1, x -> x.holdTold(0, 4), 500);
        takenOn(river, "since 9999", x -> x.found(0, 0, 1, 9999), 0, x -> x.holdTold(0, 4), 500);
        outside("since", 0, 9999, (x, n) -> x.found(0, 0, 1, n), BAD);
        refused("all of it wrong", x -> x.found(4, 7, 10000, 10000), BAD);
        due("no hold at all", new RiverCompact().found(3, 6, 9999, 9999), 0);
        due("asking leaves all as it was", leavesAll(RICH, "found(0, 0, 9999, 0)", x -> x.found(0, 0, 9999, 0)), 1);
        due("asking for nothing, too", leavesAll(RICH, "found(3, 6, 0, 9999)", x -> x.found(3, 6, 0, 9999)), 0);
    }

    private void foundFull() {
        says(26, "FULL: 16 HOLDS");
        RiverCompact x = oneHold(100);
        for (int i = 1; i < 15; i++) {
            x.hold(HOLD, 0, 6, 1, 900);
        }
        due("fifteen holds", x.found(0, 0, 1, 0), 1);
        due("fifteen holds still", x.count(0), 15);
        x.hold(HOLD, 0, 6, 1, 900);
        due("sixteen holds", x.found(0, 0, 1, 0), FULL);
        River full = Rivers::fullOfHolds;
        refusedOn(full, "full", y -> y.found(0, 0, 1, 0), FULL);
        refusedOn(full, "BAD for a state ahead of FULL", y -> y.found(4, 0, 1, 0), BAD);
        refusedOn(full, "BAD for a reach ahead of FULL", y -> y.found(0, -1, 1, 0), BAD);
        refusedOn(full, "BAD for n ahead of FULL", y -> y.found(0, 0, 10000, 0), BAD);
        refusedOn(full, "BAD for since ahead of FULL", y -> y.found(0, 0, 1, 10000), BAD);
    }

    private void foundTakes() {
        says(26, "IF a RESERVE (FOUND: of a REACH, STATE, n, SINCE, in force in all MONTHS) were there, too "
            + "(as the last number)");
        due("it leaves as much as was wanted", oneHold(60).found(0, 0, 40, 1499), 0);
        due("it leaves one less", oneHold(60).found(0, 0, 41, 1499), 1);
        due("it leaves none", oneHold(60).found(0, 0, 100, 1499), 1);
        due("of like rank the last number is the last", oneHold(60).found(0, 0, 100, 1500), 0);
        due("one later", oneHold(60).found(0, 0, 100, 1501), 0);
        due("a hold that wants nothing", oneHold(0).found(0, 0, 100, 0), 0);
        due("from below", oneHold(100).found(0, 1, 9999, 0), 0);
        due("in month 0", foundInMonth(0), 1);
        due("in month 2, when a right asks nothing", foundInMonth(2), 1);
        due("in month 95", foundInMonth(95), 1);
    }

    /** Water is there in one month alone. */
    private static int foundInMonth(int month) {
        RiverCompact x = new RiverCompact();
        x.flood(0, month, 100);
        x.hold(HOLD, 0, 0, 100, 9999);
        return x.found(0, 0, 1, 0);
    }

    /** 100 come in one month, of which a hold below wants 60; half of what the reserve takes comes a month later. */
    private static RiverCompact belowReserve(int kind, int reach, int n) {
        RiverCompact x = new RiverCompact();
        x.flood(0, 10, 100);
        x.hold(HOLD, 0, 1, 60, 0);
        if (n >= 0) {
            x.hold(kind, 0, reach, n, 0);
        }
        return x;
    }

    private void foundInAllMonths() {
        says(26, "those HOLDS that get less in all 96 MONTHS together");
        RiverCompact x = belowReserve(RESERVE, 0, -1);
        due("40 and 30 are more", x.found(0, 0, 60, 0), 0);
        due("21 and 39 are as much", x.found(0, 0, 79, 0), 0);
        due("20 and 40 are as much", x.found(0, 0, 80, 0), 0);
        due("19 and 40 are one less", x.found(0, 0, 81, 0), 1);
        due("0 and 50 are less", x.found(0, 0, 100, 0), 1);
        RiverCompact y = new RiverCompact();
        y.flood(0, 95, 100);
        y.hold(HOLD, 0, 1, 60, 0);
        due("nothing comes behind month 95", y.found(0, 0, 80, 0), 1);
        due("40 are left in it", y.found(0, 0, 40, 0), 0);
    }

    /** A hold of rank 10 at reach 1 calls in the one month that has water. */
    private static int foundAboveCall(int since) {
        RiverCompact x = new RiverCompact();
        x.flood(0, 5, 100);
        x.hold(HOLD, 0, 1, 100, 10);
        x.call(0, 5);
        return x.found(0, 0, 1, since);
    }

    private static int foundByText(String words, int state) {
        RiverCompact x = oneHold(100);
        int text = Rivers.text(x, words);
        x.rule(1, text);
        x.rule(3, text);
        return x.found(state, 0, 1, 0);
    }

    private void foundAsOthers() {
        says(26, "WANTS: ASKS less cut (of its STATE's TEXT, 0 .. 100, else the bound) hundredths of it; 0, if may is 0, "
            + "if it is not in force, or it is SHUT.");
        due("may is 0 for its state", foundByText("may 0;cut 0;", 3), 0);
        due("may is 0 for another state", foundByText("may 0;cut 0;", 2), 1);
        due("cut 99 of 1 is 0", foundByText("may 1;cut 99;", 1), 1);
        due("cut 100", foundByText("may 1;cut 100;", 1), 0);
        due("its state", foundByText("may state < 3;cut 0;", 1), 1);
        due("its state, 3", foundByText("may state < 3;cut 0;", 3), 0);
        due("its rank", foundByText("may rank = 0-1000;cut 0;", 1), 1);
        due("shut by one of less rank", foundAboveCall(1011), 0);
        due("not shut by one of like rank", foundAboveCall(1010), 1);
        due("not shut by one of more rank", foundAboveCall(1009), 1);
    }

    private void foundBits() {
        says(26, "HOLDS (bits) that would get less");
        RiverCompact x = new RiverCompact();
        Rivers.always(x, 0, 15);
        for (int i = 0; i < 15; i++) {
            x.hold(HOLD, 0, 0, 1, i);
        }
        due("of fifteen none", x.found(0, 0, 0, 0), 0);
        due("of fifteen the last", x.found(0, 0, 1, 0), 1 << 14);
        due("of fifteen the last two", x.found(0, 0, 2, 0), 3 << 13);
        due("of fifteen all but the first", x.found(0, 0, 14, 0), (1 << 15) - 2);
        due("of fifteen all", x.found(0, 0, 15, 0), (1 << 15) - 1);
    }

    /** The river of one hold, with a lake that is full, and another one by the text of state 1. */
    private static RiverCompact fullLake(String words) {
        RiverCompact x = oneHold(100);
        x.lake(0, 30, 30, 0, 0);
        x.hold(HOLD, 1, 1, 1, 0);
        x.rule(1, Rivers.text(x, words));
        return x;
    }

    private void byLevel() {
        says(26, "level: LEVELS of all LAKES as the MONTH begins, together");
        due("found, it may not", fullLake("may level < 30;cut 0;").found(1, 0, 1, 0), 0);
        due("found, it may", fullLake("may level < 31;cut 0;").found(1, 0, 1, 0), 1);
        says(27, "level: LEVELS of all LAKES as the MONTH begins, together");
        due("sold, it may not", fullLake("may level < 30;cut 0;").sold(1, 0), 0);
        due("sold, it may", fullLake("may level < 31;cut 0;").sold(1, 0), 1);
        says(28, "level: LEVELS of all LAKES as the MONTH begins, together");
        due("harm, it may not", fullLake("may level < 30;cut 0;").harm(1, 0), 0);
        due("harm, it may", fullLake("may level < 31;cut 0;").harm(1, 0), 96);
        says(29, "level: LEVELS of all LAKES as the MONTH begins, together");
        due("30 hundredths of 100", fullLake("may 1;cut level;").unlike(0, 1, 0, 7), 12 * 30);
        due("it may not", fullLake("may level < 30;cut 0;").unlike(0, 1, 0, 0), 1200);
    }

    private void sold() {
        says(27, "HOLDS (bits, others alone) that would get less, IF one were SOLD to another REACH. BAD.");
        outside("hold", 0, 5, (x, n) -> x.sold(n, 0), BAD);
        outside("reach", 0, 6, (x, n) -> x.sold(0, n), BAD);
        refusedOn(NEW, "no hold at all", x -> x.sold(0, 0), BAD);
        outsideOn(Rivers::fullOfHolds, "hold of sixteen", 0, 15, (x, n) -> x.sold(n, 0), BAD);
        refused("both wrong", x -> x.sold(6, 7), BAD);
        due("the first hold, to its own reach", leavesAll(RICH, "sold(0, 0)", x -> x.sold(0, 0)), 0);
        due("the last hold, to its own reach", leavesAll(RICH, "sold(5, 6)", x -> x.sold(5, 6)), 0);
        due("to reach 0", leavesAll(() -> downAndUp(61), "sold(0, 0)", x -> x.sold(0, 0)), 2);
        due("to reach 6", leavesAll(() -> downAndUp(61), "sold(0, 6)", x -> x.sold(0, 6)), 0);
        due("sixteen holds", Rivers.fullOfHolds().sold(15, 6), 0);
    }

    /** 100 come in every month; hold 1 wants 40 at reach 1, hold 0, a later one, n at reach 3. */
    private static RiverCompact downAndUp(int n) {
        RiverCompact x = new RiverCompact();
        Rivers.always(x, 0, 100);
        x.hold(HOLD, 0, 3, n, 9);
        x.hold(HOLD, 0, 1, 40, 5);
        return x;
    }

    private void soldTakes() {
        says(27, "IF a HOLD were of another REACH (SOLD): likewise");
        due("it leaves as much as is wanted", downAndUp(60).sold(0, 0), 0);
        due("it leaves one less", downAndUp(61).sold(0, 0), 2);
        due("at that reach it comes later", downAndUp(61).sold(0, 1), 0);
        due("at its own reach", downAndUp(61).sold(0, 3), 0);
        due("below it", downAndUp(61).sold(0, 2), 0);
        RiverCompact x = downAndUp(61);
        x.hold(HOLD, 0, 0, 100, 9);
        due("of like rank the less number is first", x.sold(0, 0), 4);
        RiverCompact y = new RiverCompact();
        y.flood(0, 4, 100);
        y.gauge(1, 4, 50);
        y.hold(HALF, 0, 3, 100, 0);
        y.hold(HOLD, 0, 1, 50, 1);
        due("a half reads there: 50", y.sold(0, 1), 0);
        due("a half reads nothing at reach 0", y.sold(0, 0), 0);
        y.gauge(1, 4, 51);
        due("a half reads there: 51", y.sold(0, 1), 2);
        RiverCompact z = new RiverCompact();
        z.flood(0, 4, 100);
        z.hold(HOLD, 0, 0, 0, 1);
        z.hold(HOLD, 0, 1, 70, 2);
        z.call(0, 4);
        due("a call shuts from the reach that it is sold to", z.sold(0, 1), 2);
        due("not from its own", z.sold(0, 0), 0);
        RiverCompact u = new RiverCompact();
        u.flood(0, 4, 100);
        u.hold(HOLD, 1, 3, 100, 1);
        u.hold(HOLD, 0, 1, 100, 2);
        u.rule(1, Rivers.text(u, "may level < 0;cut 0;"));
        due("there, too, it may not", u.sold(0, 0), 0);
        due("there, too, it harms none", u.harm(0, 0), 0);
        u.rule(1, 0);
        due("now it may", u.sold(0, 0), 2);
        due("now it harms", u.harm(0, 0), 100);
    }

    private void soldOthersAlone() {
        says(27, "(bits, others alone)");
        due("what is sold gets less itself", downAndUp(70).sold(1, 6), 0);
        RiverCompact x = downAndUp(70);
        x.hold(HOLD, 0, 6, 100, 1);
        due("others with it", x.sold(2, 0), 3);
        RiverCompact y = new RiverCompact();
        Rivers.always(y, 0, 15);
        for (int i = 0; i < 15; i++) {
            y.hold(HOLD, 0, 1, 1, i);
        }
        y.hold(HOLD, 0, 2, 15, 0);
        due("of sixteen the first fifteen", y.sold(15, 0), (1 << 15) - 1);
        RiverCompact z = new RiverCompact();
        Rivers.always(z, 0, 15);
        z.hold(HOLD, 0, 2, 1, 0);
        for (int i = 1; i < 16; i++) {
            z.hold(HOLD, 0, 1, 1, i);
        }
        due("of sixteen the last", z.sold(0, 0), 1 << 15);
    }

    private void soldInAllMonths() {
        says(27, "those HOLDS that get less in all 96 MONTHS together");
        due("40 and 30 are more", belowReserve(RESERVE, 6, 60).sold(1, 0), 0);
        due("21 and 39 are as much", belowReserve(RESERVE, 6, 79).sold(1, 0), 0);
        due("20 and 40 are as much", belowReserve(RESERVE, 6, 80).sold(1, 0), 0);
        due("19 and 40 are one less", belowReserve(RESERVE, 6, 81).sold(1, 0), 1);
        due("nothing comes back of a hold", belowReserve(HOLD, 6, 41).sold(1, 0), 1);
        due("as much is left by a hold", belowReserve(HOLD, 6, 40).sold(1, 0), 0);
        for (int month = 0; month < 96; month += 95) {
            RiverCompact x = new RiverCompact();
            x.flood(0, month, 10);
            x.hold(HOLD, 0, 1, 10, 0);
            x.hold(HOLD, 0, 2, 1, 0);
            due("month " + month, x.sold(1, 0), 1);
        }
    }

    private void harm() {
        says(28, "HARM. NO: no such.");
        outside("hold", 0, 5, (x, n) -> x.harm(n, 0), NO);
        outside("reach", 0, 6, (x, n) -> x.harm(0, n), NO);
        refusedOn(NEW, "no hold at all", x -> x.harm(0, 0), NO);
        outsideOn(Rivers::fullOfHolds, "hold of sixteen", 0, 15, (x, n) -> x.harm(n, 0), NO);
        refused("both wrong", x -> x.harm(6, 7), NO);
        due("the first hold, to its own reach", leavesAll(RICH, "harm(0, 0)", x -> x.harm(0, 0)), 0);
        due("the last hold, to its own reach", leavesAll(RICH, "harm(5, 6)", x -> x.harm(5, 6)), 0);
        due("to reach 0", leavesAll(() -> downAndUp(61), "harm(0, 0)", x -> x.harm(0, 0)), 96);
        due("to reach 6", leavesAll(() -> downAndUp(61), "harm(0, 6)", x -> x.harm(0, 6)), 0);
        says(28, "HARM: by how much all others together get less");
        due("as much is left", downAndUp(60).harm(0, 0), 0);
        due("all is taken", downAndUp(100).harm(0, 0), 96 * 40);
        due("19 and 40 are one less", belowReserve(RESERVE, 6, 81).harm(1, 0), 1);
        due("20 and 40 are as much", belowReserve(RESERVE, 6, 80).harm(1, 0), 0);
        due("what is sold gets less itself", downAndUp(70).harm(1, 6), 0);
        due("the most", mostHarm(), 96L * 9999);
    }

    private static long mostHarm() {
        RiverCompact x = new RiverCompact();
        Rivers.always(x, 0, 9999);
        x.hold(HOLD, 0, 1, 9999, 0);
        x.hold(HOLD, 0, 2, 9999, 0);
        return x.harm(1, 0);
    }

    /**
     * 100 come in month 10. Hold 1 takes them then; sold from 2 to 0, hold 0 takes 10 of them, of which 5 come a month
     * later, for hold 2.
     */
    private static RiverCompact lessAndMore(int n) {
        RiverCompact x = new RiverCompact();
        x.flood(0, 10, 100);
        x.hold(RESERVE, 0, 2, 10, 0);
        Rivers.holdIn(x, 10, HOLD, 1, 100, 0);
        x.hold(HOLD, 0, 3, n, 0);
        return x;
    }

    /** Hold 0 reads 50 at reach 3 and 1 at reach 1: sold there, hold 1 gets one less, hold 2 has 40 more. */
    private static RiverCompact moreThanLess() {
        RiverCompact x = new RiverCompact();
        x.flood(0, 10, 50);
        x.flood(3, 10, 50);
        x.gauge(1, 10, 1);
        x.gauge(3, 10, 50);
        x.hold(HALF, 0, 3, 100, 0);
        Rivers.holdIn(x, 10, HOLD, 1, 50, 1);
        x.hold(HOLD, 0, 4, 100, 1);
        return x;
    }

    private void harmTogether() {
        says(28, "all others together get less (0 at least)");
        due("10 less alone", lessAndMore(0).harm(0, 0), 10);
        due("10 less, 4 more", lessAndMore(4).harm(0, 0), 6);
        due("10 less, 5 more", lessAndMore(5).harm(0, 0), 5);
        due("10 less, no more than 5 more", lessAndMore(6).harm(0, 0), 5);
        due("who gets less of them", lessAndMore(6).sold(0, 0), 2);
        due("1 less, 40 more", moreThanLess().harm(0, 1), 0);
        due("who gets less of those", moreThanLess().sold(0, 1), 2);
        RiverCompact x = downAndUp(100);
        x.hold(HOLD, 0, 2, 25, 5);
        due("of two both", x.harm(0, 0), 96 * (40 + 25));
        RiverCompact y = new RiverCompact();
        Rivers.always(y, 0, 15);
        y.hold(HOLD, 0, 2, 15, 0);
        for (int i = 1; i < 16; i++) {
            y.hold(HOLD, 0, 1, 1, i);
        }
        due("of fifteen others all", y.harm(0, 0), 96 * 15);
        due("of fifteen others none", y.harm(0, 3), 0);
        due("the last one's others", y.harm(15, 6), 0);
    }

    private void unlikeNumbers() {
        says(29, "UNLIKE. NO: no such.");
        outside("first", 0, 1, (x, n) -> x.unlike(n, 0, 0, 0), NO);
        outside("second", 0, 1, (x, n) -> x.unlike(0, n, 0, 0), NO);
        outside("state", 0, 3, (x, n) -> x.unlike(0, 1, n, 0), NO);
        outside("year", 0, 7, (x, n) -> x.unlike(0, 1, 0, n), NO);
        outsideOn(Rivers::fullOfTexts, "first of six", 0, 5, (x, n) -> x.unlike(n, 0, 0, 0), NO);
        outsideOn(Rivers::fullOfTexts, "second of six", 0, 5, (x, n) -> x.unlike(0, n, 0, 0), NO);
        refusedOn(NEW, "no first text", x -> x.unlike(1, 0, 0, 0), NO);
        refusedOn(NEW, "no second text", x -> x.unlike(0, 1, 0, 0), NO);
        refused("all of it wrong", x -> x.unlike(2, 2, 4, 8), NO);
        due("no hold at all", new RiverCompact().unlike(0, 0, 3, 7), 0);
        due("a text and itself", leavesAll(RICH, "unlike(1, 1, 3, 7)", x -> x.unlike(1, 1, 3, 7)), 0);
        due("the last of six", Rivers.fullOfTexts().unlike(5, 5, 0, 0), 0);
        due("asking leaves all as it was", leavesAll(RICH, "unlike(0, 1, 1, 0)", x -> x.unlike(0, 1, 1, 0)),
            Rivers.rich().unlike(0, 1, 1, 0));
    }

    /** In all months 100 come, and a hold of a state wants them; text 1 cuts 30, text 2 lets none take. */
    private static RiverCompact byTexts(int state) {
        RiverCompact x = new RiverCompact();
        Rivers.always(x, 0, 100);
        Rivers.text(x, "may 1;cut 30;");
        Rivers.text(x, "may 0;cut 0;");
        x.hold(HOLD, state, 0, 100, 0);
        return x;
    }

    /** What 30 hundredths of 100 that come in one month alone make in a year. */
    private static long unlikeIn(int month, int year) {
        RiverCompact x = new RiverCompact();
        x.flood(0, month, 100);
        Rivers.text(x, "may 1;cut 30;");
        x.hold(HOLD, 0, 0, 100, 0);
        return x.unlike(0, 1, 0, year);
    }

    private void unlikeYears() {
        says(29, "UNLIKE: what all HOLDS of a STATE get in a YEAR");
        int[] months = {0, 11, 12, 23, 83, 84, 95};
        int[] years = {0, 0, 1, 1, 6, 7, 7};
        for (int i = 0; i < months.length; i++) {
            for (int year = 0; year < 8; year++) {
                due("month " + months[i] + " in year " + year, unlikeIn(months[i], year), year == years[i] ? 30 : 0);
            }
        }
        says(29, "if one TEXT is that of all STATES, less if another one is");
        due("30 of each month", byTexts(0).unlike(0, 1, 0, 0), 360);
        due("the other way round it is below 0", byTexts(0).unlike(1, 0, 0, 7), -360);
        due("all of it", byTexts(0).unlike(0, 2, 0, 0), 1200);
        due("all that is cut", byTexts(0).unlike(2, 1, 0, 0), -840);
        due("of one text none", byTexts(0).unlike(2, 2, 0, 0), 0);
    }

    private void unlikeStates() {
        says(29, "if one TEXT is that of all STATES");
        due("state 3", byTexts(3).unlike(0, 1, 3, 0), 360);
        due("none of another state", byTexts(3).unlike(0, 1, 2, 0), 0);
        due("none of state 0", byTexts(3).unlike(0, 1, 0, 0), 0);
        RiverCompact x = byTexts(1);
        x.rule(1, 2);
        due("the state's own text does not matter", x.unlike(0, 1, 1, 0), 360);
        due("it stays", x.count(8), 2);
        due("and is what is wanted by", x.takes(0, 0, 1), 0);
        RiverCompact y = byTexts(1);
        Rivers.always(y, 0, 300);
        y.hold(HOLD, 1, 6, 50, 0);
        y.hold(HOLD, 2, 0, 70, 0);
        due("of two holds of a state", y.unlike(0, 1, 1, 0), 12 * (30 + 15));
        due("of the other state's one", y.unlike(0, 1, 2, 0), 12 * 21);
        RiverCompact z = new RiverCompact();
        Rivers.always(z, 0, 100);
        Rivers.text(z, "may state = 1;cut 0;");
        z.hold(HOLD, 0, 0, 100, 0);
        z.hold(HOLD, 1, 1, 100, 0);
        due("of the other states, too", z.unlike(1, 0, 1, 0), 1200);
        due("none is left for them", z.unlike(1, 0, 0, 0), -1200);
        RiverCompact u = byTexts(0);
        u.force(0, 0, 95);
        due("what is not in force is not unlike", u.unlike(0, 1, 0, 7), 11 * 30);
        RiverCompact v = new RiverCompact();
        Rivers.always(v, 0, 16);
        Rivers.text(v, "may 0;cut 0;");
        for (int i = 0; i < 16; i++) {
            v.hold(HOLD, 3, 0, 1, i + 1);
        }
        due("sixteen holds of a state", v.unlike(0, 1, 3, 7), 16 * 12);
        v.call(0, 90);
        due("fifteen of them are shut once", v.unlike(0, 1, 3, 7), 16 * 12 - 15);
    }
}
