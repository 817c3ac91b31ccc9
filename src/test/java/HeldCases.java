/** Promise 30: how to hold lakes so that least steams away. */
final class HeldCases extends Cases {
    HeldCases(Check check) {
        super(check);
    }

    @Override
    void work() {
        heldNumbers();
        heldLakes();
        releases();
        powerAtLeast();
        powerOfAll();
        steamIsLeast();
        steamOfAll();
        digits();
        asTold();
    }

    private void heldNumbers() {
        says(30, "LAKES HELD: what 0 the digits, 1 all STEAM. NO: power (0 .. 2000000000), what; -5: there is none; "
            + "-6: more than 3 LAKES.");
        outside("power", 0, 2000000000, (x, n) -> x.held(n, 0), NO);
        outside("what", 0, 1, (x, n) -> x.held(0, n), NO);
        refused("both wrong", x -> x.held(-1, 2), NO);
        due("power 0", leavesAll(RICH, "held(0, 0)", x -> x.held(0, 0)), 15);
        refused("power 2000000000", x -> x.held(2000000000, 0), NO_CHOICE);
        refused("power 2000000000, its steam", x -> x.held(2000000000, 1), NO_CHOICE);
        refused("NO for power ahead of -5", x -> x.held(2000000001, 0), NO);
        refused("NO for what ahead of -5", x -> x.held(2000000000, -1), NO);
        River four = Rivers::withFourLakes;
        outsideOn(four, "NO ahead of -6: power", 0, 2000000000, (x, n) -> x.held(n, 0), NO);
        outsideOn(four, "NO ahead of -6: what", 0, 1, (x, n) -> x.held(0, n), NO);
    }

    private static RiverCompact withLakes(int lakes) {
        RiverCompact x = new RiverCompact();
        for (int i = 0; i < lakes; i++) {
            x.lake(6 - i, 100, 0, 0, 0);
        }
        return x;
    }

    private void heldLakes() {
        says(30, "each LAKE (3 at most, else it can't be asked)");
        for (int lakes = 0; lakes <= 3; lakes++) {
            due(lakes + " lakes, digits", withLakes(lakes).held(0, 0), 0);
            due(lakes + " lakes, steam", withLakes(lakes).held(0, 1), 0);
            due(lakes + " lakes, power", withLakes(lakes).held(1, 0), NO_CHOICE);
        }
        for (int lakes = 4; lakes <= 7; lakes++) {
            due(lakes + " lakes, digits", withLakes(lakes).held(0, 0), MANY_LAKES);
            due(lakes + " lakes, steam", withLakes(lakes).held(0, 1), MANY_LAKES);
            due(lakes + " lakes, power", withLakes(lakes).held(2000000000, 1), MANY_LAKES);
        }
        refusedOn(Rivers::withFourLakes, "four lakes", x -> x.held(0, 0), MANY_LAKES);
        says(30, "(without LAKES: 0)");
        due("digits", new RiverCompact().held(0, 0), 0);
        due("steam", new RiverCompact().held(0, 1), 0);
    }

    /** A lake that does not steam: with release 0 it has no power, with 50 it has 5000, with 100 5500, with 200 6000. */
    private static RiverCompact still(int release) {
        RiverCompact x = new RiverCompact();
        x.lake(3, 99999, 1000, 0, release);
        return x;
    }

    private void releases() {
        says(30, "RELEASE 0, half of it, as it is, or twice that (0 .. 3)");
        due("0 gives nothing", still(100).held(0, 0), 0);
        due("half gives 5000", still(100).held(5000, 0), 1);
        due("as it is gives 5500", still(100).held(5500, 0), 2);
        due("twice gives 6000", still(100).held(6000, 0), 3);
        due("half of 1 is 0", still(1).held(1, 0), 2);
        due("half of 2 is 1", still(2).held(1, 0), 1);
        // 1 in every month: 10 times 1 once, then 9 times 1 in 95 months
        due("half of 3 is 1", still(3).held(10 + 95 * 9, 0), 1);
        due("half of 3 is no more", still(3).held(10 + 95 * 9 + 1, 0), 2);
        due("of 0 all are like", still(0).held(0, 0), 0);
        due("of 0 none has power", still(0).held(1, 0), NO_CHOICE);
        RiverCompact x = new RiverCompact();
        x.lake(3, 99999, 20000, 0, 9999);
        due("half of the greatest is 4999", x.held(500 * 4999, 0), 1);
        due("half of the greatest is no more", x.held(500 * 4999 + 1, 0), 2);
        due("the greatest as it is", x.held(300 * 9999, 0), 2);
        due("the greatest as it is has no more", x.held(300 * 9999 + 1, 0), 3);
        due("twice the greatest", x.held(200 * 19998, 0), 3);
        due("twice the greatest has no more", x.held(200 * 19998 + 1, 0), NO_CHOICE);
        due("the release stays", x.release(3, 1), 9999);
    }

    private void powerAtLeast() {
        says(30, "the one with POWER of all LAKES and MONTHS together at least as told");
        due("1 needs the half", still(100).held(1, 0), 1);
        due("4999", still(100).held(4999, 0), 1);
        due("5001", still(100).held(5001, 0), 2);
        due("5501", still(100).held(5501, 0), 3);
        due("6001", still(100).held(6001, 0), NO_CHOICE);
        due("the steam of 6000", still(100).held(6000, 1), 0);
        due("the steam of 6001", still(100).held(6001, 1), NO_CHOICE);
        RiverCompact x = new RiverCompact();
        x.flood(0, 94, 200);
        x.lake(0, 300, 0, 0, 50);
        due("25 in month 95", x.held(25, 0), 1);
        due("26 in month 95", x.held(26, 0), 2);
        due("50 in month 95", x.held(50, 0), 2);
        due("51 in month 95", x.held(51, 0), 3);
        due("100 in month 95", x.held(100, 0), 3);
        due("101 in month 95", x.held(101, 0), NO_CHOICE);
    }

    /** The still lake, and one of reach 6 that has head 1 in month 0 alone; a hold between them takes all water. */
    private static RiverCompact twoLakes() {
        RiverCompact x = still(100);
        x.lake(6, 99999, 100, 0, 3);
        x.hold(HOLD, 0, 4, 9999, 0);
        return x;
    }

    private void powerOfAll() {
        says(30, "POWER of all LAKES and MONTHS together");
        due("1", twoLakes().held(1, 0), 1);
        due("2", twoLakes().held(2, 0), 2);
        due("3", twoLakes().held(3, 0), 2);
        due("6", twoLakes().held(6, 0), 3);
        due("7", twoLakes().held(7, 0), 4);
        due("5000", twoLakes().held(5000, 0), 4);
        due("5000 and 1", twoLakes().held(5001, 0), 5);
        due("5000 and 3", twoLakes().held(5003, 0), 6);
        due("5000 and 6", twoLakes().held(5006, 0), 7);
        due("5500", twoLakes().held(5007, 0), 8);
        due("6000 and 6", twoLakes().held(6006, 0), 15);
        due("no more", twoLakes().held(6007, 0), NO_CHOICE);
    }

    private void steamIsLeast() {
        says(30, "for which all STEAM together is least; of like ones the least as digits to the base 4");
        RiverCompact x = new RiverCompact();
        x.flood(3, 0, 200);
        x.lake(3, 9999, 100, 10, 100);
        due("twice steams 1", x.held(0, 0), 3);
        due("its steam", x.held(0, 1), 1);
        due("200 of power by twice", x.held(200, 0), 3);
        due("its steam", x.held(200, 1), 1);
        due("201 of power by half alone", x.held(201, 0), 1);
        due("its steam", x.held(201, 1), 5);
        due("250 of power by half", x.held(250, 0), 1);
        due("251 of power by none", x.held(251, 0), NO_CHOICE);
        RiverCompact y = new RiverCompact();
        y.lake(3, 9999, 200, 99, 200);
        due("twice is like as it is", y.held(0, 0), 2);
        due("the steam of both", y.held(0, 1), 19);
        due("the power of both", y.held(362, 0), 2);
        due("no more", y.held(363, 0), NO_CHOICE);
        RiverCompact z = new RiverCompact();
        z.lake(6, 100, 100, 10, 10);
        due("all four are like", z.held(0, 0), 0);
        due("their steam", z.held(0, 1), 1);
        due("three of them", z.held(5, 0), 1);
        due("two of them", z.held(6, 0), 2);
    }

    private void steamOfAll() {
        says(30, "all STEAM together");
        RiverCompact x = new RiverCompact();
        x.lake(0, 9999, 200, 99, 200);
        x.lake(6, 100, 100, 10, 10);
        x.hold(HOLD, 0, 3, 9999, 0);
        due("both", x.held(0, 1), 19 + 1);
        due("the least as digits", x.held(0, 0), 8);
        due("362 and 5", x.held(367, 0), 9);
        due("362 and 10", x.held(372, 0), 10);
        due("362 and 20", x.held(382, 0), 11);
        due("no more", x.held(383, 1), NO_CHOICE);
        RiverCompact y = new RiverCompact();
        y.flood(6, 94, 1000);
        y.lake(6, 5000, 0, 99, 300);
        due("of month 95, 600 went out", y.held(0, 0), 3);
        due("400 steam", y.held(0, 1), 39);
    }

    /** The still lake at one reach; at others there are lakes without room. */
    private static RiverCompact stillAt(int reach, int... others) {
        RiverCompact x = new RiverCompact();
        for (int other : others) {
            x.lake(other, 0, 0, 0, 0);
        }
        x.lake(reach, 99999, 1000, 0, 100);
        return x;
    }

    private void digits() {
        says(30, "the LAKE of the least REACH having the highest digit");
        int[] powers = {5000, 5500, 6000};
        for (int i = 0; i < 3; i++) {
            int digit = i + 1;
            due("the only one, " + digit, stillAt(6).held(powers[i], 0), digit);
            due("the first of two, " + digit, stillAt(0, 6).held(powers[i], 0), 4 * digit);
            due("the second of two, " + digit, stillAt(6, 0).held(powers[i], 0), digit);
            due("the first of three, " + digit, stillAt(1, 3, 5).held(powers[i], 0), 16 * digit);
            due("the second of three, " + digit, stillAt(3, 5, 1).held(powers[i], 0), 4 * digit);
            due("the third of three, " + digit, stillAt(5, 3, 1).held(powers[i], 0), digit);
        }
        RiverCompact x = new RiverCompact();
        x.lake(0, 99999, 1000, 0, 100);
        x.lake(6, 99999, 1000, 0, 100);
        x.hold(HOLD, 0, 3, 9999, 0);
        due("of like ones the least has the lowest digit", x.held(5000, 0), 1);
        due("both as much as they can", x.held(12000, 0), 15);
        due("no more", x.held(12001, 0), NO_CHOICE);
        RiverCompact y = new RiverCompact();
        for (int reach = 0; reach < 7; reach += 3) {
            y.lake(reach, 99999, 1000, 0, 100);
        }
        y.hold(HOLD, 0, 1, 9999, 0);
        y.hold(HOLD, 0, 4, 9999, 0);
        due("three as much as they can", y.held(18000, 0), 63);
        due("three, no more", y.held(18001, 0), NO_CHOICE);
    }

    /** 200 come to a lake of 100 in month 0 if a hold above it lets them: without them it has 100 of power at most. */
    private static RiverCompact belowHold() {
        RiverCompact x = new RiverCompact();
        x.flood(0, 0, 200);
        x.hold(HOLD, 1, 0, 9999, 5);
        x.hold(HOLD, 0, 1, 0, 4);
        x.lake(3, 9999, 100, 0, 100);
        return x;
    }

    private void asTold() {
        says(30, "each LAKE (3 at most, else it can't be asked) has RELEASE 0");
        due("the hold takes all", belowHold().held(101, 0), NO_CHOICE);
        due("what is in it", belowHold().held(100, 0), 2);
        RiverCompact x = belowHold();
        x.rule(1, Rivers.text(x, "may 0;cut 0;"));
        due("by its text it takes none", x.held(101, 0), 1);
        RiverCompact v = belowHold();
        v.rule(1, Rivers.text(v, "may level < 100;cut 0;"));
        due("by the level it takes none", v.held(101, 0), 1);
        RiverCompact w = belowHold();
        w.rule(1, Rivers.text(w, "may level < 101;cut 0;"));
        due("by the level it takes all", w.held(101, 0), NO_CHOICE);
        RiverCompact y = belowHold();
        y.call(1, 0);
        due("it is shut", y.held(101, 0), 1);
        RiverCompact z = belowHold();
        z.call(1, 1);
        due("it is shut in another month", z.held(101, 0), NO_CHOICE);
        RiverCompact u = belowHold();
        u.force(0, 1, 96);
        due("it is not in force", u.held(101, 0), 1);
    }
}
