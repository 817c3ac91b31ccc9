/** Promises 20 and 22 to 25: what the months come to, and what is owed of them. */
final class MonthCases extends Cases {
    MonthCases(Check check) {
        super(check);
    }

    @Override
    void work() {
        told();
        comes();
        returns();
        returnedSalt();
        anew();
        sharp();
        sharpAtMost();
        sum();
        sumsOfBack();
        sumsOfLakes();
        owed();
        owedOfWindow();
        breaks();
        breaksFirst();
    }

    private void told() {
        says(20, "0 SIDE, 1 RETURNS, 2 COMES, 3 WATER, 4 ON, 5 SALT of COMES, 6 SALT of ON. BAD.");
        outside("reach", 0, 6, (x, n) -> x.told(n, 0, 0), BAD);
        outside("month", 0, 95, (x, n) -> x.told(0, n, 0), BAD);
        outside("what", 0, 6, (x, n) -> x.told(0, 0, n), BAD);
        refused("all of it wrong", x -> x.told(7, 96, 7), BAD);
        int[][] rows = {{200, 0, 200, 200, 140, 19, 14}, {0, 30, 170, 100, 100, 20, 11}, {0, 0, 100, 100, 100, 11, 11}};
        for (int reach = 0; reach < 3; reach++) {
            for (int what = 0; what < 7; what++) {
                due("reach " + reach + ", what " + what, passing().told(reach, 95, what), rows[reach][what]);
            }
        }
    }

    /** In months 94 and 95 200 come with 19 of salt; 60 are taken with 5, 30 come back with 6; a lake lets 100 go. */
    private static RiverCompact passing() {
        RiverCompact x = new RiverCompact();
        x.flood(0, 94, 200);
        x.flood(0, 95, 200);
        x.salt(0, 99);
        x.hold(RESERVE, 0, 0, 60, 0);
        x.lake(1, 9999, 0, 0, 100);
        return x;
    }

    private static int comesTo(int reach, int from) {
        RiverCompact x = new RiverCompact();
        x.flood(from, 30, 10);
        return x.told(reach, 30, 2);
    }

    private void comes() {
        says(20, "REACHES 0 .. 6 lie one below the other; from 6 the water goes over the BORDER.");
        due("from 0 to 1", comesTo(1, 0), 10);
        due("from 0 to 6", comesTo(6, 0), 10);
        due("from 5 to 6", comesTo(6, 5), 10);
        due("at its own reach", comesTo(6, 6), 10);
        due("not from 1 to 0", comesTo(0, 1), 0);
        due("not from 6 to 5", comesTo(5, 6), 0);
        due("not from 6 to 0", comesTo(0, 6), 0);
        RiverCompact x = new RiverCompact();
        for (int reach = 0; reach < 7; reach++) {
            x.side(reach, 11, 1 << reach);
        }
        due("of all sides", x.told(6, 95, 4), 127);
        due("of those above and its own", x.told(3, 95, 2), 15);
        due("of reach 0 its own alone", x.told(0, 95, 2), 1);
        due("nothing a month ahead", x.told(6, 94, 2), 0);
    }

    /** What returns to a reach in a month from a reserve of 100 above it that is in force in one month. */
    private static int returnsTo(int reach, int month, int inForce) {
        RiverCompact x = new RiverCompact();
        Rivers.always(x, 0, 100);
        Rivers.holdIn(x, inForce, RESERVE, reach - 1, 100, 0);
        return x.told(reach, month, 1);
    }

    private void returns() {
        says(20, "RETURNS: all BACK of HOLDS of the REACH above from the MONTH before");
        due("from month 0 to month 1", returnsTo(1, 1, 0), 50);
        due("not in month 0", returnsTo(1, 0, 0), 0);
        due("not in month 2", returnsTo(1, 2, 0), 0);
        due("from month 11 to month 12", returnsTo(1, 12, 11), 50);
        due("from month 94 to month 95", returnsTo(1, 95, 94), 50);
        due("from month 95 not to month 95", returnsTo(1, 95, 95), 0);
        due("from month 95 not to month 0", returnsTo(1, 0, 95), 0);
        due("from reach 5 to 6", returnsTo(6, 1, 0), 50);
        RiverCompact x = new RiverCompact();
        Rivers.always(x, 0, 100);
        x.hold(RESERVE, 0, 0, 30, 0);
        x.hold(RESERVE, 0, 0, 40, 0);
        x.hold(RESERVE, 0, 1, 20, 0);
        due("reach 0 has none", x.told(0, 5, 1), 0);
        due("of all holds above", x.told(1, 5, 1), 35);
        due("not of two above", x.told(2, 5, 1), 10);
        due("none of reach 3", x.told(3, 5, 1), 0);
        RiverCompact y = new RiverCompact();
        Rivers.always(y, 6, 100);
        y.hold(RESERVE, 0, 6, 40, 0);
        due("of reach 6 none comes to 0", y.told(0, 5, 1), 0);
        due("nor to 6", y.told(6, 5, 1), 0);
        RiverCompact z = new RiverCompact();
        z.side(0, 0, 3);
        z.hold(RESERVE, 0, 0, 1, 0);
        z.hold(RESERVE, 0, 0, 1, 0);
        due("each is cut by itself", z.told(1, 1, 1), 0);
    }

    private void returnedSalt() {
        says(20, "each with its SALT");
        RiverCompact x = new RiverCompact();
        x.side(0, 0, 200);
        x.salt(0, 99);
        Rivers.holdIn(x, 0, RESERVE, 0, 100, 0);
        x.side(1, 0, 100);
        x.salt(1, 50);
        x.side(1, 1, 60);
        due("of the side", x.told(0, 0, 5), 19);
        due("of what goes on and of the side", x.told(1, 0, 5), 10 + 5);
        due("of what returns and of the side", x.told(1, 1, 5), 9 + 2 + 3);
        due("nothing returns in month 0", x.told(1, 0, 1), 0);
        due("goes on", x.told(6, 1, 6), 14);
        due("nothing a month on", x.told(1, 2, 5), 0);
        due("not a year on", x.told(1, 13, 5), 3);
    }

    private void anew() {
        says(20, "All is worked out from what is told by now, from MONTH 0 on: there is no now.");
        RiverCompact x = passing();
        due("month 95 is asked first", x.told(1, 95, 2), 170);
        due("month 0 then", x.told(1, 0, 2), 0);
        x.flood(1, 0, 5);
        due("month 0 is told behind that", x.told(1, 0, 2), 5);
        due("and changes month 95", x.lakeTold(1, 94, 0), 0);
        x.release(1, 0);
        due("what was kept since", x.lakeTold(1, 95, 0), 5 + 140);
        x.force(0, 0, 0);
        due("nothing is taken", x.told(1, 95, 2), 200);
    }

    /** What is sharp with so much water and salt at reach 6 in month 3. */
    private static int sharpOf(int water, int salt) {
        RiverCompact x = new RiverCompact();
        x.side(5, 2, 9999);
        x.salt(5, salt / 10);
        x.hold(HOLD, 0, 5, 9999, 0);
        x.force(0, 2, 3);
        x.flood(6, 3, water);
        return x.sharp(3);
    }

    private void sharp() {
        says(22, "SHARP. BAD.");
        outside("month", 0, 95, (x, n) -> x.sharp(n), BAD);
        RiverCompact x = new RiverCompact();
        x.flood(6, 0, 1000);
        x.flood(6, 95, 1000);
        x.salt(6, 77);
        due("month 0", x.sharp(0), 77);
        due("month 95", x.sharp(95), 77);
        due("month 94", x.sharp(94), 0);
        x.flood(6, 0, 1);
        due("cut", x.sharp(0), 76);
        x.flood(5, 94, 1000);
        x.salt(5, 3);
        due("of what comes from above", x.sharp(94), 3);
    }

    private void sharpAtMost() {
        says(22, "SHARP is the SALT of ON of REACH 6 times 1000 by ON, 1000000 at most (0 if ON is 0).");
        // the hold's salt: 9999 * rate / 1000 taken, and 199 of what it got
        due("no water, no salt", new RiverCompact().sharp(3), 0);
        due("salt without water", sharpOf(0, 990), 0);
        due("1188 in 1 are too much", sharpOf(1, 990), 1000000);
        due("1188 in 2", sharpOf(2, 990), 594000);
        due("199 in 1", sharpOf(1, 0), 199000);
        due("998 in 1", sharpOf(1, 800), 199000 + 799000);
        due("1008 in 1", sharpOf(1, 810), 1000000);
        due("without salt", plainSharp(1000, 0), 0);
        due("999 times 1000 by 1", exactSharp(999), 999000);
        due("1000 times 1000 by 1", exactSharp(1000), 1000000);
        due("1001 times 1000 by 1", exactSharp(1001), 1000000);
        RiverCompact x = new RiverCompact();
        x.flood(6, 0, 100);
        x.salt(6, 99);
        due("9 in 100", x.sharp(0), 90);
        x.hold(HOLD, 0, 6, 50, 0);
        due("a hold takes 4 with 50: 5 in 50", x.sharp(0), 100);
        x.lake(6, 100, 0, 0, 60);
        due("of 60 with 5 it takes 4 with 50: 1 in 10", x.sharp(0), 100);
        x.release(6, 80);
        due("of 80 with 7 it takes 4 with 50: 3 in 30", x.sharp(0), 100);
        x.release(6, 75);
        due("of 75 with 6 it takes 4 with 50: 2 in 25", x.sharp(0), 80);
    }

    private static int plainSharp(int water, int rate) {
        RiverCompact x = new RiverCompact();
        x.flood(6, 0, water);
        x.salt(6, rate);
        return x.sharp(0);
    }

    /** 1 of water over the border with so much salt: 10 of it come for each 500 that a hold got, and the rest for 50. */
    private static int exactSharp(int salt) {
        RiverCompact x = new RiverCompact();
        int rest = salt;
        for (int i = 0; i < 10 && rest > 0; i++) {
            int part = Math.min(rest, 190);
            x.flood(5, 2, 50 * part);
            x.hold(HOLD, 0, 5, 50 * part, i);
            rest -= part;
        }
        x.flood(6, 3, 1);
        return x.sharp(3);
    }

    private void sum() {
        says(23, "7 POWER. NO.");
        outside("what", 0, 7, (x, n) -> x.sum(n), NO);
        outsideOn(NEW, "what", 0, 7, (x, n) -> x.sum(n), NO);
        says(23, "Of all MONTHS: 0 ON of REACH 6, 1 SIDES, 2 what HOLDS get");
        int[] months = {0, 95};
        for (int month : months) {
            RiverCompact x = new RiverCompact();
            x.flood(6, month, 30);
            x.flood(0, month, 70);
            Rivers.holdIn(x, month, HOLD, 5, 25, 0);
            Rivers.holdIn(x, month, HOLD, 6, 5, 0);
            due("on, month " + month, x.sum(0), 70);
            due("sides, month " + month, x.sum(1), 100);
            due("gets, month " + month, x.sum(2), 30);
            x.flood(3, month, -9999);
            due("a side of 0 at least, month " + month, x.sum(1), 100);
        }
    }

    /** A reserve of 100 at a reach in a month alone, and its sum. */
    private static long sumOf(int what, int reach, int month) {
        RiverCompact x = new RiverCompact();
        x.flood(0, month, 100);
        Rivers.holdIn(x, month, RESERVE, reach, 100, 0);
        return x.sum(what);
    }

    private void sumsOfBack() {
        says(23, "4 RETURNS that came, 5 BACK that was lost (of REACH 6), 6 BACK of MONTH 95 of all others");
        due("came from month 0", sumOf(4, 0, 0), 50);
        due("came from month 94", sumOf(4, 0, 94), 50);
        due("of month 95 none came", sumOf(4, 0, 95), 0);
        due("came to reach 6", sumOf(4, 5, 94), 50);
        due("of reach 6 none came", sumOf(4, 6, 50), 0);
        due("lost in month 0", sumOf(5, 6, 0), 50);
        due("lost in month 94", sumOf(5, 6, 94), 50);
        due("lost in month 95", sumOf(5, 6, 95), 50);
        due("of reach 5 none is lost", sumOf(5, 5, 50), 0);
        due("of reach 5 in month 95 none is lost", sumOf(5, 5, 95), 0);
        due("of month 95 at reach 5", sumOf(6, 5, 95), 50);
        due("of month 95 at reach 0", sumOf(6, 0, 95), 50);
        due("of month 95 at reach 6", sumOf(6, 6, 95), 0);
        due("of month 94", sumOf(6, 5, 94), 0);
        due("of month 0", sumOf(6, 0, 0), 0);
    }

    private static long sumOfLake(int what, int reach) {
        RiverCompact x = new RiverCompact();
        x.flood(reach, 94, 5000);
        x.lake(reach, 99999, 2000, 10, 4);
        for (int month = 0; month < 95; month++) {
            if (what == 3 && x.lakeTold(reach, month, 1) == 0) {
                return -1;
            }
        }
        return x.sum(what) - x.lakeTold(reach, 95, what == 3 ? 1 : 4);
    }

    private void sumsOfLakes() {
        says(23, "3 STEAM");
        RiverCompact x = new RiverCompact();
        x.lake(0, 5000, 1000, 99, 5000);
        due("of month 0", x.sum(3), 99);
        due("power of month 0", x.sum(7), 10 * 901);
        x.lake(6, 5000, 2000, 50, 5000);
        due("of two lakes", x.sum(3), 99 + 100);
        RiverCompact y = new RiverCompact();
        y.flood(6, 94, 1000);
        y.lake(6, 5000, 0, 99, 0);
        due("of month 95", y.sum(3), 99);
        y.release(6, 1);
        due("power of month 95", y.sum(7), 9);
        due("all but that of month 95, at reach 0", sumOfLake(3, 0), sumOfLake(3, 6));
        due("power all but that of month 95, at reach 0", sumOfLake(7, 0), sumOfLake(7, 6));
        due("the greatest power", mostPower(), 7L * 999 * 9999);
    }

    /** Seven lakes that are full in month 0 and let out what they can: the others add nothing. */
    private static long mostPower() {
        RiverCompact x = new RiverCompact();
        long power = 0;
        for (int reach = 0; reach < 7; reach++) {
            x.lake(reach, 99999, 99999, 0, 9999);
        }
        for (int reach = 0; reach < 7; reach++) {
            power += x.lakeTold(reach, 0, 4);
        }
        return power;
    }

    private void owed() {
        says(24, "OWED. NO: REACH, MONTH, p (0 .. 9999999), w.");
        outside("reach", 0, 6, (x, n) -> x.owed(n, 95, 5, 1), NO);
        outside("month", 0, 95, (x, n) -> x.owed(0, n, 5, 1), NO);
        outside("p", 0, 9999999, (x, n) -> x.owed(0, 95, n, 1), NO);
        outside("w", 1, 60, (x, n) -> x.owed(0, 95, 5, n), NO);
        due("reach 0", new RiverCompact().owed(0, 95, 5, 1), 5);
        due("reach 6", new RiverCompact().owed(6, 95, 5, 1), 5);
        due("p 0", new RiverCompact().owed(6, 95, 0, 1), 0);
        due("p 9999999", new RiverCompact().owed(6, 95, 9999999, 1), 9999999);
        due("w 60", new RiverCompact().owed(6, 95, 9, 60), 9);
        refused("w 0 in a month that has none owed", x -> x.owed(0, 0, 5, 0), NO);
        refused("w 61 in a month that has none owed", x -> x.owed(0, 0, 5, 61), NO);
        refused("all of it wrong", x -> x.owed(7, 96, -1, 0), NO);
        says(24, "0 at least; none in MONTHS below w - 1");
        due("as much as goes on", owedOf(0, 1, 40, 1), 0);
        due("one more", owedOf(0, 1, 41, 1), 1);
        due("one less", owedOf(0, 1, 39, 1), 0);
        due("w 1 in month 0", new RiverCompact().owed(0, 0, 5, 1), 5);
        due("w 2 in month 0", new RiverCompact().owed(0, 0, 5, 2), 0);
        due("w 2 in month 1", new RiverCompact().owed(0, 1, 5, 2), 5);
        due("w 12 in month 10", new RiverCompact().owed(0, 10, 5, 12), 0);
        due("w 12 in month 11", new RiverCompact().owed(0, 11, 5, 12), 5);
        due("w 60 in month 58", new RiverCompact().owed(0, 58, 5, 60), 0);
        due("w 60 in month 59", new RiverCompact().owed(0, 59, 5, 60), 5);
    }

    /** What is owed in a month if 40 went on in another one. */
    private static long owedOf(int floodMonth, int months, int p, int w) {
        RiverCompact x = new RiverCompact();
        x.flood(4, floodMonth, 40);
        return x.owed(4, floodMonth + months - 1, p, w);
    }

    private void owedOfWindow() {
        says(24, "OWED in a MONTH at a REACH by a promise of p in any w MONTHS (1 .. 60): p less ON of that REACH in "
            + "the w MONTHS that end with it");
        due("the first of 3", owedOf(50, 3, 100, 3), 60);
        due("the last of 3", owedOf(50, 1, 100, 3), 60);
        due("one ahead of the 3", owedOf(50, 4, 100, 3), 100);
        due("the first of 60", owedOf(36, 60, 100, 60), 60);
        due("one ahead of the 60", owedOf(35, 61, 100, 60), 100);
        due("month 0 of 60", owedOf(0, 60, 100, 60), 60);
        RiverCompact x = new RiverCompact();
        x.flood(4, 51, 40);
        due("a month behind does not count", x.owed(4, 50, 100, 3), 100);
        due("the reach above has none of it", x.owed(3, 51, 100, 3), 100);
        due("the reach below has", x.owed(5, 51, 100, 3), 60);
        x.hold(HOLD, 0, 4, 15, 0);
        due("what goes on, not what comes", x.owed(4, 51, 100, 3), 75);
    }

    private void breaks() {
        says(25, "The first MONTH in which something is OWED. NONE: none; BAD.");
        outside("reach", 0, 6, (x, n) -> x.breaks(n, 5, 1), BAD);
        outside("p", 0, 9999999, (x, n) -> x.breaks(0, n, 1), BAD);
        outside("w", 1, 60, (x, n) -> x.breaks(0, 5, n), BAD);
        refused("BAD for p ahead of NONE", x -> x.breaks(0, -1, 60), BAD);
        refused("all of it wrong", x -> x.breaks(7, -1, 0), BAD);
        due("p 0", new RiverCompact().breaks(0, 0, 1), NONE);
        due("p 0 in 60", new RiverCompact().breaks(6, 0, 60), NONE);
        due("p 1", new RiverCompact().breaks(0, 1, 1), 0);
        due("p 9999999", new RiverCompact().breaks(6, 9999999, 1), 0);
        due("w 2", new RiverCompact().breaks(6, 1, 2), 1);
        due("w 60", new RiverCompact().breaks(6, 1, 60), 59);
    }

    private static int breaksOf(int dryMonth, int p, int w) {
        RiverCompact x = new RiverCompact();
        Rivers.always(x, 3, 100);
        x.flood(3, dryMonth, -1);
        return x.breaks(3, p, w);
    }

    private void breaksFirst() {
        says(25, "The first MONTH in which something is OWED.");
        due("month 0", breaksOf(0, 100, 1), 0);
        due("month 1", breaksOf(1, 100, 1), 1);
        due("month 95", breaksOf(95, 100, 1), 95);
        due("as much as is there", breaksOf(95, 99, 1), NONE);
        due("month 95 ends the only one", breaksOf(95, 6000, 60), 95);
        due("month 0 is in the first 60", breaksOf(0, 6000, 60), 59);
        due("it is kept by 60", breaksOf(0, 5999, 60), NONE);
        due("month 0 of 2", breaksOf(0, 200, 2), 1);
        due("the first of two", breaksOf(50, 200, 2), 50);
        due("all are owed", breaksOf(50, 101, 1), 0);
    }
}
