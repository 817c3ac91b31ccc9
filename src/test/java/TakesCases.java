/** Promise 12: what a hold asks, wants, gets and gives back in a month. */
final class TakesCases extends Cases {
    TakesCases(Check check) {
        super(check);
    }

    @Override
    void work() {
        takes();
        asksInMonths();
        asksCut();
        wantsByCut();
        wantsByMay();
        wantsByLevel();
        gets();
        turns();
        salts();
        backs();
        lost();
    }

    private void takes() {
        says(12, "Of a HOLD in a MONTH: 0 ASKS, 1 WANTS, 2 GETS, 3 BACK, 4 whether it is SHUT (1, 0). BAD.");
        outside("hold", 0, 5, (x, n) -> x.takes(n, 0, 0), BAD);
        outside("month", 0, 95, (x, n) -> x.takes(0, n, 0), BAD);
        outside("what", 0, 4, (x, n) -> x.takes(0, 0, n), BAD);
        refusedOn(NEW, "no hold at all", x -> x.takes(0, 0, 0), BAD);
        refused("all of it wrong", x -> x.takes(6, 96, 5), BAD);
        int[] month0 = {25, 25, 25, 12, 0};
        int[] month40 = {25, 0, 0, 0, 1};
        int[] month94 = {33, 31, 31, 15, 0};
        int[] month95 = {33, 0, 0, 0, 0};
        for (int what = 0; what <= 4; what++) {
            due("month 0, what " + what, Rivers.rich().takes(3, 0, what), month0[what]);
            due("month 40, what " + what, Rivers.rich().takes(3, 40, what), month40[what]);
            due("month 94, what " + what, Rivers.rich().takes(5, 94, what), month94[what]);
            due("month 95, what " + what, Rivers.rich().takes(5, 95, what), month95[what]);
        }
    }

    private static int asks(int kind, int n, int month) {
        RiverCompact x = new RiverCompact();
        x.hold(kind, 0, 0, n, 0);
        return x.takes(0, month, 0);
    }

    private void asksInMonths() {
        says(12, "RIGHT: as a HOLD in MONTHS OF THE YEAR 3 .. 8, else 0.");
        int[] months = {0, 2, 3, 8, 9, 11, 12, 14, 15, 20, 21, 86, 87, 92, 93, 95};
        int[] rights = {0, 0, 50, 50, 0, 0, 0, 0, 50, 50, 0, 0, 50, 50, 0, 0};
        for (int i = 0; i < months.length; i++) {
            due("a right in month " + months[i], asks(RIGHT, 50, months[i]), rights[i]);
        }
        says(12, "DITCH: as a RIGHT, and a tenth of that more.");
        for (int i = 0; i < months.length; i++) {
            due("a ditch in month " + months[i], asks(DITCH, 50, months[i]), rights[i] / 10 * 11);
        }
        says(12, "ASKS in a MONTH: HOLD n.");
        due("a hold in month 0", asks(HOLD, 50, 0), 50);
        due("a hold in month 95", asks(HOLD, 50, 95), 50);
        says(12, "RESERVE: as a HOLD, in all MONTHS.");
        for (int month : months) {
            due("a reserve in month " + month, asks(RESERVE, 50, month), 50);
        }
        says(12, "ANCIENT: as a RESERVE; in MONTHS OF THE YEAR 6, 7 half of that more.");
        int[] around = {0, 5, 6, 7, 8, 17, 18, 19, 20, 89, 90, 91, 92, 95};
        int[] ancients = {50, 50, 75, 75, 50, 50, 75, 75, 50, 50, 75, 75, 50, 50};
        for (int i = 0; i < around.length; i++) {
            due("an ancient in month " + around[i], asks(ANCIENT, 50, around[i]), ancients[i]);
        }
    }

    private static int half(int n, int reading) {
        RiverCompact x = new RiverCompact();
        x.gauge(3, 7, reading);
        x.hold(HALF, 0, 3, n, 0);
        return x.takes(0, 7, 0);
    }

    private void asksCut() {
        says(12, "HALF: n hundredths of READ of its REACH.");
        due("1 of 99 is cut", half(1, 99), 0);
        due("1 of 100", half(1, 100), 1);
        due("1 of 199 is cut", half(1, 199), 1);
        due("99 of 1 is cut", half(99, 1), 0);
        due("100 of 1", half(100, 1), 1);
        due("0 of the greatest", half(0, 99999), 0);
        due("100 of the greatest", half(100, 99999), 99999);
        due("100 of nothing", half(100, 0), 0);
        due("without a gauge", asks(HALF, 100, 7), 0);
        says(12, "Quotients are cut, water and salt are whole.");
        due("a ditch of 9", asks(DITCH, 9, 3), 9);
        due("a ditch of 10", asks(DITCH, 10, 3), 11);
        due("a ditch of 19", asks(DITCH, 19, 3), 20);
        due("a ditch of 0", asks(DITCH, 0, 3), 0);
        due("a ditch of the most", asks(DITCH, 9999, 3), 9999 + 999);
        due("an ancient of 1", asks(ANCIENT, 1, 6), 1);
        due("an ancient of 2", asks(ANCIENT, 2, 7), 3);
        due("an ancient of 3", asks(ANCIENT, 3, 6), 4);
        due("an ancient of the most", asks(ANCIENT, 9999, 7), 9999 + 4999);
    }

    /** What a hold of n wants by a text. */
    private static int wants(int n, String words) {
        RiverCompact x = new RiverCompact();
        x.hold(HOLD, 2, 0, n, 0);
        x.rule(2, Rivers.text(x, words));
        return x.takes(0, 7, 1);
    }

    private void wantsByCut() {
        says(12, "WANTS: ASKS less cut (of its STATE's TEXT, 0 .. 100, else the bound) hundredths of it");
        due("cut 0", wants(1000, "may 1;cut 0;"), 1000);
        due("cut 1", wants(1000, "may 1;cut 1;"), 990);
        due("cut 99", wants(1000, "may 1;cut 99;"), 10);
        due("cut 100", wants(1000, "may 1;cut 100;"), 0);
        due("cut 101 is 100", wants(1000, "may 1;cut 101;"), 0);
        due("cut 9999 is 100", wants(1000, "may 1;cut 9999;"), 0);
        due("cut -1 is 0", wants(1000, "may 1;cut -1;"), 1000);
        due("the least int is 0", wants(1000, "may 1;cut 8192*8192*32;"), 1000);
        due("the greatest int is 100", wants(1000, "may 1;cut 8192*8192*32-1;"), 0);
        due("the hundredths are cut, not what is left", wants(10, "may 1;cut 33;"), 7);
        due("99 hundredths of 1 are 0", wants(1, "may 1;cut 99;"), 1);
        due("1 hundredth of 99 is 0", wants(99, "may 1;cut 1;"), 99);
        due("1 hundredth of 100", wants(100, "may 1;cut 1;"), 99);
        due("of nothing", wants(0, "may 1;cut 50;"), 0);
        due("of the most", wants(9999, "may 1;cut 1;"), 9999 - 99);
    }

    private void wantsByMay() {
        says(12, "0, if may is 0, if it is not in force, or it is SHUT.");
        due("may 0", wants(1000, "may 0;cut 0;"), 0);
        due("may 1", wants(1000, "may 1;cut 0;"), 1000);
        due("may 2", wants(1000, "may 2;cut 0;"), 1000);
        due("may -1", wants(1000, "may -1;cut 0;"), 1000);
        due("may wraps to 0", wants(1000, "may 8192*8192*64;cut 0;"), 0);
        due("may wraps to the least int", wants(1000, "may 8192*8192*32;cut 0;"), 1000);
        RiverCompact x = new RiverCompact();
        x.hold(HOLD, 0, 0, 70, 1);
        x.hold(HOLD, 0, 0, 80, 2);
        x.force(0, 6, 7);
        x.call(0, 6);
        due("in force", x.takes(0, 6, 1), 70);
        due("not in force", x.takes(0, 7, 1), 0);
        due("shut", x.takes(1, 6, 1), 0);
        due("not shut", x.takes(1, 7, 1), 80);
        due("it asks though it is not in force", x.takes(0, 7, 0), 70);
        due("it asks though it is shut", x.takes(1, 6, 0), 80);
    }

    private void wantsByLevel() {
        says(12, "level: LEVELS of all LAKES as the MONTH begins, together");
        RiverCompact x = new RiverCompact();
        x.lake(6, 9999, 1000, 0, 10);
        x.hold(HOLD, 1, 0, 500, 0);
        x.rule(1, Rivers.text(x, "may level < 1000;cut level-960;"));
        due("1000: it may not", x.takes(0, 0, 1), 0);
        due("990: 30 hundredths are cut", x.takes(0, 1, 1), 350);
        due("970: 10 hundredths are cut", x.takes(0, 3, 1), 450);
        due("960: none are cut", x.takes(0, 4, 1), 500);
        due("950: none are cut", x.takes(0, 5, 1), 500);
        due("50 in month 95", x.takes(0, 95, 1), 500);
        x.flood(0, 1, 1000);
        due("it gets what it wants", x.takes(0, 1, 2), 350);
        due("990 less 10 and 650 are 1630: it may not", x.takes(0, 2, 1), 0);
        x.lake(5, 9999, 1, 0, 0);
        due("991 of two lakes", x.takes(0, 1, 1), 345);
        due("may level, 10", wantsByLevelAlone("may level;cut 0;", 2), 500);
        due("may level, 0", wantsByLevelAlone("may level;cut 0;", 3), 0);
        due("cut level, 10", wantsByLevelAlone("may 1;cut level;", 2), 450);
        due("cut level, 0", wantsByLevelAlone("may 1;cut level;", 3), 500);
        due("nothing but the level, 30", wantsByLevelAlone("may level;cut level;", 0), 350);
        due("nothing but the level, 10", wantsByLevelAlone("may level;cut level;", 2), 450);
        due("nothing but the level, 0", wantsByLevelAlone("may level;cut level;", 3), 0);
    }

    /** What a hold of 500 wants while a lake's level is 30, 20, 10 and then 0. */
    private static int wantsByLevelAlone(String words, int month) {
        RiverCompact x = new RiverCompact();
        x.lake(6, 9999, 30, 0, 10);
        x.hold(HOLD, 1, 0, 500, 0);
        x.rule(1, Rivers.text(x, words));
        return x.takes(0, month, 1);
    }

    /** What the last of some holds at reach 0 gets of 100. */
    private static int lastGets(int... amounts) {
        RiverCompact x = new RiverCompact();
        x.side(0, 0, 100);
        int last = 0;
        for (int n : amounts) {
            last = x.hold(HOLD, 0, 0, n, 5);
        }
        return x.takes(last, 0, 2);
    }

    private void gets() {
        says(12, "GETS: WANTS, as far as WATER goes");
        due("one less than there is", lastGets(99), 99);
        due("as much as there is", lastGets(100), 100);
        due("one more than there is", lastGets(101), 100);
        due("what another one left", lastGets(60, 50), 40);
        due("as much as it left", lastGets(60, 40), 40);
        due("less than it left", lastGets(60, 39), 39);
        due("one left", lastGets(99, 50), 1);
        due("none left", lastGets(100, 50), 0);
        due("none wanted", lastGets(0), 0);
        due("none there", new RiverCompact().hold(HOLD, 0, 0, 9, 9) + getsNothing(), 0);
    }

    private static int getsNothing() {
        RiverCompact x = new RiverCompact();
        x.hold(HOLD, 0, 0, 9, 9);
        return x.takes(0, 0, 2) + x.told(0, 0, 4) + x.told(1, 1, 5);
    }

    /** Which of two holds gets all there is. */
    private static int whoGets(int kind, int since, int otherKind, int otherSince) {
        RiverCompact x = new RiverCompact();
        x.side(0, 3, 10);
        x.gauge(0, 3, 10);
        x.hold(kind, 0, 0, 100, since);
        x.hold(otherKind, 0, 0, 100, otherSince);
        return x.takes(0, 3, 2) == 10 ? 0 : x.takes(1, 3, 2) == 10 ? 1 : 2;
    }

    private void turns() {
        says(12, "the least RANK first (of like ones the least number)");
        due("one less goes first", whoGets(HOLD, 8, HOLD, 9), 0);
        due("told later, one less", whoGets(HOLD, 9, HOLD, 8), 1);
        due("like ones", whoGets(HOLD, 9, HOLD, 9), 0);
        due("a ditch is one later", whoGets(DITCH, 9, RIGHT, 9), 1);
        due("a ditch like a right", whoGets(DITCH, 9, RIGHT, 10), 0);
        due("a right like a hold", whoGets(RIGHT, 9, HOLD, 9), 0);
        due("a half is 0", whoGets(HOLD, 0, HALF, 9999), 0);
        due("a half ahead of 1", whoGets(HOLD, 1, HALF, 9999), 1);
        due("a reserve like 5", whoGets(HOLD, 5, RESERVE, 1005), 0);
        due("a reserve ahead of 5", whoGets(HOLD, 5, RESERVE, 1004), 1);
        due("below 0 ahead of 0", whoGets(HALF, 0, RESERVE, 999), 1);
        due("an ancient like a reserve", whoGets(RESERVE, 1000, ANCIENT, 2000), 0);
        due("an ancient ahead of a reserve", whoGets(RESERVE, 1000, ANCIENT, 1999), 1);
        RiverCompact x = new RiverCompact();
        x.side(0, 3, 10);
        x.hold(HOLD, 0, 1, 10, 0);
        x.hold(HOLD, 0, 0, 10, 9999);
        due("who is above goes first, whatever the rank", x.takes(1, 3, 2), 10);
        due("nothing is left for who was first", x.takes(0, 3, 2), 0);
    }

    /** What salt of 9 with 100 of water a hold takes, and what is left, times 100; the hold gives no water back. */
    private static int saltTaken(int n) {
        RiverCompact x = new RiverCompact();
        x.side(0, 0, 100);
        x.salt(0, 99);
        x.hold(HOLD, 0, 0, n, 0);
        return (x.told(1, 1, 5) - n / 50) + 100 * x.told(0, 0, 6);
    }

    private void salts() {
        says(12, "it takes SALT with it: SALT of WATER (as it is then) times GETS by WATER; both are less by that.");
        due("none taken", saltTaken(0), 900);
        due("11 of 100 are cut", saltTaken(11), 900);
        due("12 of 100", saltTaken(12), 801);
        due("99 of 100 are cut", saltTaken(99), 108);
        due("all", saltTaken(100), 9);
        RiverCompact x = new RiverCompact();
        x.side(0, 0, 100);
        x.salt(0, 99);
        x.hold(HOLD, 0, 0, 12, 0);
        x.hold(HOLD, 0, 0, 11, 1);
        due("of 8 in 88 then 11 take one", x.told(0, 0, 6), 7);
        due("both come below", x.told(1, 1, 5), 2);
        x.hold(HOLD, 0, 0, 100, 2);
        due("the last of it", x.told(0, 0, 6), 0);
        due("nothing is left", x.told(0, 0, 4), 0);
        x.hold(HOLD, 0, 0, 100, 3);
        due("nothing of nothing", x.takes(3, 0, 2), 0);
        due("nor salt", x.told(1, 1, 5), 1 + 1 + 7 + 77 / 50);
    }

    private static int back(int kind, int gets) {
        RiverCompact x = new RiverCompact();
        x.flood(0, 3, gets);
        x.gauge(0, 3, 99999);
        x.hold(kind, 0, 0, kind == HALF ? 100 : 9999, 0);
        return x.takes(0, 3, 3);
    }

    private void backs() {
        says(12, "BACK: GETS times BACK hundredths by 100; its SALT: what it took, and GETS by 50.");
        int[] last0 = {9999, 2, 4, 1, 4, 1};
        int[] last1 = {9999, 4, 9, 3, 9, 3};
        int[] of9999 = {0, 3999, 1999, 4999, 1999, 4999};
        for (int kind = 1; kind < 6; kind++) {
            due("kind " + kind + " of " + last0[kind] + " is cut", back(kind, last0[kind]), 0);
            due("kind " + kind + " of " + (last0[kind] + 1), back(kind, last0[kind] + 1), 1);
            due("kind " + kind + " of " + last1[kind] + " is cut", back(kind, last1[kind]), 1);
            due("kind " + kind + " of " + (last1[kind] + 1), back(kind, last1[kind] + 1), 2);
            due("kind " + kind + " of nothing", back(kind, 0), 0);
            due("kind " + kind + " of 9999", back(kind, 9999), of9999[kind]);
        }
        due("a hold gives none back", back(HOLD, 9999), 0);
        due("49 by 50 are cut", saltOf(49), 0);
        due("50 by 50", saltOf(50), 1);
        due("99 by 50 are cut", saltOf(99), 1);
        due("100 by 50", saltOf(100), 2);
    }

    /** The salt of what comes back of n with no salt. */
    private static int saltOf(int n) {
        RiverCompact x = new RiverCompact();
        x.side(0, 0, n);
        x.hold(RESERVE, 0, 0, 9999, 0);
        return x.told(1, 1, 5);
    }

    private void lost() {
        says(12, "(BACK of HOLDS of REACH 6 is lost.)");
        RiverCompact x = new RiverCompact();
        x.side(6, 0, 100);
        x.hold(RESERVE, 0, 6, 60, 0);
        due("it gives 30 back", x.takes(0, 0, 3), 30);
        due("none comes to reach 6", x.told(6, 1, 2), 0);
        due("none comes to reach 0", x.told(0, 1, 2), 0);
        due("nor its salt", x.told(0, 1, 5) + x.told(6, 1, 5), 0);
        due("it is lost", x.sum(5), 8 * 30);
    }
}
