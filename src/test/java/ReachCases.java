/** Promises 1 to 6: a new object, sides, rates, floods, gauges. */
final class ReachCases extends Cases {
    ReachCases(Check check) {
        super(check);
    }

    @Override
    void work() {
        newObject();
        side();
        sideInMonths();
        salt();
        flood();
        floodsInMonths();
        floodsFull();
        gauge();
        gaugesFull();
        read();
        readsAbove();
    }

    private void newObject() {
        says(1, "No SIDES, LAKES, HOLDS.");
        for (int reach = 0; reach < 7; reach += 6) {
            int r = reach;
            due("no side at " + r, new RiverCompact().told(r, 0, 0), 0);
            due("no side in month 95 at " + r, new RiverCompact().told(r, 95, 0), 0);
            due("no lake at " + r, new RiverCompact().lakeTold(r, 0, 0), NO_LAKE);
            due("no release at " + r, new RiverCompact().release(r, 1), NO_LAKE);
            due("no reading at " + r, new RiverCompact().read(r, 95), 0);
        }
        for (int what = 0; what <= 10; what++) {
            due("count(" + what + ")", new RiverCompact().count(what), what == 5 ? 1 : 0);
        }
        for (int what = 0; what <= 7; what++) {
            due("sum(" + what + ")", new RiverCompact().sum(what), 0);
        }
        due("no hold is told", new RiverCompact().holdTold(0, 0), BAD);
        due("no hold gets", new RiverCompact().all(0, 0, 96), NO);
        due("no hold is taken", new RiverCompact().taken(0, 0), NOTHING);
        due("no call helps", new RiverCompact().helps(0), BAD);
        due("no set is left dry", new RiverCompact().dry(0, 0), 0);
        due("none is found to get less", new RiverCompact().found(0, 0, 9999, 0), 0);
        due("no salt over the border", new RiverCompact().sharp(95), 0);
        due("all is owed at once", new RiverCompact().breaks(6, 1, 1), 0);
        due("an empty tape's fault", new RiverCompact().text(), -100);
        RiverCompact other = Rivers.rich();
        due("another object stands", other.count(0), 6);
        due("a new one is of its own", new RiverCompact().count(0), 0);
    }

    private void side() {
        says(2, "REACHES 0 .. 6 lie one below the other");
        taken("reach 0", x -> x.side(0, 5, 7), 500, x -> x.told(0, 5, 0), 7);
        taken("reach 6", x -> x.side(6, 5, 7), 506, x -> x.told(6, 5, 0), 7);
        outside("reach", 0, 6, (x, n) -> x.side(n, 5, 7), BAD);
        says(2, "SIDE for a MONTH OF THE YEAR: what it was. BAD.");
        taken("month of the year 0", x -> x.side(2, 0, 7), 302, x -> x.told(2, 0, 0), 7);
        taken("month of the year 11", x -> x.side(2, 11, 7), 202, x -> x.told(2, 11, 0), 7);
        outside("month of the year", 0, 11, (x, n) -> x.side(2, n, 7), BAD);
        taken("it is this now, not as much more", x -> x.side(2, 5, 502), 502, x -> x.told(2, 5, 0), 502);
        taken("what it was, told twice", x -> x.side(2, 5, 7) + x.side(2, 5, 9), 509, x -> x.side(2, 5, 0), 9);
        taken("not with its floods", x -> x.flood(2, 5, 30), 3, x -> x.side(2, 5, 0), 502);
        refused("all of them wrong", x -> x.side(7, 12, 10000), BAD);
        says(2, "(0 .. 9999; 0 at first)");
        due("at first", new RiverCompact().side(3, 4, 1), 0);
        taken("n 0", x -> x.side(2, 5, 0), 502, x -> x.told(2, 5, 0), 0);
        taken("n 9999", x -> x.side(2, 5, 9999), 502, x -> x.told(2, 5, 0), 9999);
        outside("n", 0, 9999, (x, n) -> x.side(2, 5, n), BAD);
    }

    private void sideInMonths() {
        says(2, "MONTH OF THE YEAR is it modulo 12, YEAR it by 12.");
        int[] of0 = {0, 12, 84};
        int[] not0 = {1, 11, 13, 83, 85, 95};
        int[] of11 = {11, 23, 95};
        int[] not11 = {0, 10, 12, 84, 94};
        for (int month : of0) {
            due("of 0 in month " + month, sideOf(0, month), 8);
        }
        for (int month : not0) {
            due("none of 0 in month " + month, sideOf(0, month), 0);
        }
        for (int month : of11) {
            due("of 11 in month " + month, sideOf(11, month), 8);
        }
        for (int month : not11) {
            due("none of 11 in month " + month, sideOf(11, month), 0);
        }
    }

    private static int sideOf(int ofYear, int month) {
        RiverCompact x = new RiverCompact();
        x.side(3, ofYear, 8);
        return x.told(3, month, 0);
    }

    private static int saltOf(int n, int flood, int rate) {
        RiverCompact x = new RiverCompact();
        x.side(3, 4, n);
        x.flood(3, 4, flood);
        x.salt(3, rate);
        return x.told(3, 4, 5);
    }

    private void salt() {
        says(3, "SALT RATE: what it was. BAD.");
        taken("reach 0", x -> x.salt(0, 7), 20, x -> x.salt(0, 0), 7);
        taken("reach 6", x -> x.salt(6, 7), 26, x -> x.salt(6, 0), 7);
        outside("reach", 0, 6, (x, n) -> x.salt(n, 7), BAD);
        says(3, "(0 .. 99; 0 at first)");
        due("at first", new RiverCompact().salt(3, 1), 0);
        taken("rate 0", x -> x.salt(3, 0), 23, x -> x.salt(3, 1), 0);
        taken("rate 99", x -> x.salt(3, 99), 23, x -> x.salt(3, 1), 99);
        outside("rate", 0, 99, (x, n) -> x.salt(3, n), BAD);
        says(3, "It brings SALT: SIDE times the REACH's SALT RATE");
        due("999 by 1 is cut", saltOf(999, 0, 1), 0);
        due("1000 by 1", saltOf(1000, 0, 1), 1);
        due("1999 by 1 is cut", saltOf(1999, 0, 1), 1);
        due("rate 0", saltOf(9999, 0, 0), 0);
        due("the greatest of both", saltOf(9999, 0, 99), 989);
        due("a flood makes 1000 of 999", saltOf(999, 1, 1), 1);
        due("a flood makes 999 of 1000", saltOf(1000, -1, 1), 0);
        due("a side of 0 brings none", saltOf(1000, -9999, 99), 0);
        due("of what all floods bring", saltOfFloods(), 24 * 9999 * 99 / 1000);
    }

    private static int saltOfFloods() {
        RiverCompact x = new RiverCompact();
        for (int i = 0; i < 24; i++) {
            x.flood(6, 95, 9999);
        }
        x.salt(6, 99);
        return x.told(6, 95, 6);
    }

    private void flood() {
        says(4, "A FLOOD: its number. BAD; FULL.");
        taken("reach 0", x -> x.flood(0, 30, 7), 3, x -> x.told(0, 30, 0), 7);
        taken("reach 6", x -> x.flood(6, 30, 7), 3, x -> x.told(6, 30, 0), 7);
        outside("reach", 0, 6, (x, n) -> x.flood(n, 30, 7), BAD);
        taken("month 0", x -> x.flood(2, 0, 7), 3, x -> x.told(2, 0, 0), 309);
        taken("month 95", x -> x.flood(2, 95, 7), 3, x -> x.told(2, 95, 0), 209);
        outside("month", 0, 95, (x, n) -> x.flood(2, n, 7), BAD);
        taken("a refused one takes no number", x -> x.flood(2, 96, 1), BAD, x -> x.flood(2, 95, 1), 3);
        due("numbered from 0", new RiverCompact().flood(0, 0, 0), 0);
        says(4, "-9999 .. 9999");
        taken("n -9999", x -> x.flood(2, 5, -9999), 3, x -> x.told(2, 5, 0), 0);
        taken("n 9999", x -> x.flood(2, 5, 9999), 3, x -> x.told(2, 5, 0), 10501);
        taken("n 0 has a number, too", x -> x.flood(2, 5, 0), 3, x -> x.count(2), 4);
        outside("n", -9999, 9999, (x, n) -> x.flood(2, 5, n), BAD);
    }

    private static int withFloods(int side, int... floods) {
        RiverCompact x = new RiverCompact();
        x.side(3, 4, side);
        for (int n : floods) {
            x.flood(3, 4, n);
        }
        return x.told(3, 4, 0);
    }

    private void floodsInMonths() {
        says(4, "of that MONTH, 0 at least");
        due("5 less 4", withFloods(5, -4), 1);
        due("5 less 5", withFloods(5, -5), 0);
        due("5 less 6 is 0", withFloods(5, -6), 0);
        due("a flood alone below 0", withFloods(0, -1), 0);
        due("0 at least of all together, less first", withFloods(5, -9999, 9999), 5);
        due("0 at least of all together, more first", withFloods(5, 9999, -9999, -1), 4);
        taken("not a month ahead", x -> x.flood(2, 30, 7), 3, x -> x.told(2, 29, 0), 502);
        taken("not a month behind", x -> x.flood(2, 30, 7), 3, x -> x.told(2, 31, 0), 0);
        taken("not a year ahead", x -> x.flood(2, 30, 7), 3, x -> x.told(2, 18, 0), 0);
        taken("not a year behind", x -> x.flood(2, 30, 7), 3, x -> x.told(2, 42, 0), 0);
        taken("not at the reach above", x -> x.flood(2, 30, 7), 3, x -> x.told(1, 30, 0), 0);
        taken("not at the reach below", x -> x.flood(2, 30, 7), 3, x -> x.told(3, 30, 0), 0);
    }

    private void floodsFull() {
        says(4, "FLOODS (24 at most");
        RiverCompact x = new RiverCompact();
        for (int i = 0; i < 23; i++) {
            x.flood(1, 2, 1);
        }
        due("the last that has room", x.flood(1, 2, 1), 23);
        due("the first that has none", x.flood(1, 2, 1), FULL);
        due("24 of them flow", x.told(1, 2, 0), 24);
        due("how many", x.count(2), 24);
        River full = Rivers::fullOfFloods;
        refusedOn(full, "full", y -> y.flood(2, 30, 5), FULL);
        refusedOn(full, "full at the edges", y -> y.flood(6, 95, -9999), FULL);
        refusedOn(full, "BAD for a reach ahead of FULL", y -> y.flood(7, 30, 5), BAD);
        refusedOn(full, "BAD for a month ahead of FULL", y -> y.flood(2, 96, 5), BAD);
        refusedOn(full, "BAD for n ahead of FULL", y -> y.flood(2, 30, 10000), BAD);
    }

    private void gauge() {
        says(5, "A GAUGE: its number. BAD; FULL.");
        taken("reach 0", x -> x.gauge(0, 30, 7), 3, x -> x.read(0, 30), 7);
        taken("reach 6", x -> x.gauge(6, 30, 7), 3, x -> x.read(6, 30), 7);
        outside("reach", 0, 6, (x, n) -> x.gauge(n, 30, 7), BAD);
        taken("month 0", x -> x.gauge(2, 0, 7), 3, x -> x.read(2, 0), 7);
        taken("month 95", x -> x.gauge(2, 95, 7), 3, x -> x.read(2, 95), 7);
        outside("month", 0, 95, (x, n) -> x.gauge(2, n, 7), BAD);
        taken("a refused one takes no number", x -> x.gauge(2, 96, 1), BAD, x -> x.gauge(2, 95, 1), 3);
        due("numbered from 0", new RiverCompact().gauge(0, 0, 0), 0);
        taken("told again it has a number more", x -> x.gauge(0, 0, 800), 3, x -> x.count(3), 4);
        says(5, "(40 at most; 0 .. 99999)");
        taken("n 0", x -> x.gauge(0, 0, 0), 3, x -> x.read(0, 0), 0);
        taken("n 99999", x -> x.gauge(0, 0, 99999), 3, x -> x.read(0, 0), 99999);
        outside("n", 0, 99999, (x, n) -> x.gauge(0, 0, n), BAD);
    }

    private void gaugesFull() {
        says(5, "the GAUGE that was told last for both (40 at most");
        RiverCompact x = new RiverCompact();
        for (int i = 0; i < 39; i++) {
            x.gauge(1, 2, 100 + i);
        }
        due("the last that has room", x.gauge(1, 2, 200), 39);
        due("the first that has none", x.gauge(1, 2, 300), FULL);
        due("what the fortieth told", x.read(1, 2), 200);
        due("how many", x.count(3), 40);
        River full = Rivers::fullOfGauges;
        refusedOn(full, "full", y -> y.gauge(0, 0, 5), FULL);
        refusedOn(full, "full for a place that has one", y -> y.gauge(2, 30, 5), FULL);
        refusedOn(full, "BAD for a reach ahead of FULL", y -> y.gauge(-1, 30, 5), BAD);
        refusedOn(full, "BAD for a month ahead of FULL", y -> y.gauge(2, -1, 5), BAD);
        refusedOn(full, "BAD for n ahead of FULL", y -> y.gauge(2, 30, 100000), BAD);
    }

    private void read() {
        says(6, "READ. BAD.");
        due("reach 0", Rivers.rich().read(0, 0), 800);
        due("reach 6", Rivers.rich().read(6, 95), 90);
        outside("reach", 0, 6, (x, n) -> x.read(n, 0), BAD);
        outside("month", 0, 95, (x, n) -> x.read(0, n), BAD);
        refused("both wrong", x -> x.read(7, 96), BAD);
    }

    /** What reach 6 reads in month 40 by gauges told one behind the other. */
    private static int reads(int... reachMonthN) {
        RiverCompact x = new RiverCompact();
        for (int i = 0; i < reachMonthN.length; i += 3) {
            x.gauge(reachMonthN[i], reachMonthN[i + 1], reachMonthN[i + 2]);
        }
        return x.read(6, 40);
    }

    private void readsAbove() {
        says(6, "if none was, READ of the REACH above; of REACH 0 without one 0.");
        due("none at all", reads(), 0);
        due("its own alone", reads(6, 40, 5), 5);
        due("of the reach above", reads(5, 40, 5), 5);
        due("of reach 0, six above", reads(0, 40, 5), 5);
        due("the nearest, told first", reads(3, 40, 7, 0, 40, 5), 7);
        due("the nearest, told last", reads(0, 40, 5, 3, 40, 7), 7);
        due("a gauge of 0 is one", reads(0, 40, 5, 3, 40, 0), 0);
        due("its own of 0 is one", reads(5, 40, 5, 6, 40, 0), 0);
        due("told last", reads(6, 40, 5, 6, 40, 9, 6, 40, 3), 3);
        due("told last, of 0", reads(6, 40, 5, 6, 40, 0), 0);
        due("a month ahead is another", reads(6, 39, 5), 0);
        due("a month behind is another", reads(6, 41, 5), 0);
        due("a year behind is another", reads(6, 52, 5), 0);
        due("above it in that month, not itself in another", reads(6, 41, 5, 2, 40, 8), 8);
        RiverCompact x = new RiverCompact();
        x.gauge(1, 40, 6);
        due("not of the reach below", x.read(0, 40), 0);
        due("of its own reach", x.read(1, 40), 6);
    }
}
