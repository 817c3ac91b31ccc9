/** Promises 7, 8 and 21: lakes, their releases, and what a month does to them. */
final class LakeCases extends Cases {
    LakeCases(Check check) {
        super(check);
    }

    @Override
    void work() {
        lakePlaces();
        lakeNumbers();
        oneAtMost();
        release();
        releaseOfNone();
        lakeTold();
        steamAndHead();
        out();
        overRoom();
        saltOfOut();
        powerOfOut();
        months();
    }

    private void lakePlaces() {
        says(7, "A LAKE: 1; 0: there was one, it is this now. BAD.");
        taken("reach 0", x -> x.lake(0, 90, 80, 7, 6), 1, x -> x.lakeTold(0, 0, 0), 80);
        taken("reach 6", x -> x.lake(6, 90, 80, 7, 6), 1, x -> x.lakeTold(6, 0, 0), 80);
        outside("reach", 0, 6, (x, n) -> x.lake(n, 90, 80, 7, 6), BAD);
        refused("all of it wrong", x -> x.lake(7, -1, 1, 100, 10000), BAD);
        refused("a lake that is there is not replaced", x -> x.lake(1, 90, 91, 7, 6), BAD);
        says(7, "ROOM (0 .. 99999)");
        taken("room 0", x -> x.lake(2, 0, 0, 7, 6), 1, x -> x.lakeTold(2, 1, 0), 0);
        taken("room 99999", x -> x.lake(2, 99999, 0, 7, 0), 1, x -> x.lakeTold(2, 1, 0), comesTo2());
        outside("room", 0, 99999, (x, n) -> x.lake(1, n, 0, 7, 6), BAD);
        says(7, "a LEVEL at first (ROOM at most)");
        taken("level 0", x -> x.lake(1, 90, 0, 7, 6), 0, x -> x.lakeTold(1, 0, 0), 0);
        taken("level of the room", x -> x.lake(1, 90, 90, 7, 6), 0, x -> x.lakeTold(1, 0, 0), 90);
        taken("the greatest", x -> x.lake(1, 99999, 99999, 7, 6), 0, x -> x.lakeTold(1, 0, 0), 99999);
        taken("level 0 of room 0", x -> x.lake(1, 0, 0, 7, 6), 0, x -> x.lakeTold(1, 0, 0), 0);
        outside("level", 0, 90, (x, n) -> x.lake(1, 90, n, 7, 6), BAD);
        refused("level 1 of room 0", x -> x.lake(1, 0, 1, 7, 6), BAD);
        refused("level 100000 of the greatest room", x -> x.lake(1, 99999, 100000, 7, 6), BAD);
    }

    /** What comes to reach 2 of the rich river in month 0: its side, and what reach 1 lets go. */
    private static int comesTo2() {
        return 302 + Rivers.rich().told(1, 0, 4);
    }

    private void lakeNumbers() {
        says(7, "a SURFACE (0 .. 99), a RELEASE (0 .. 9999)");
        taken("surface 0", x -> x.lake(1, 2000, 1000, 0, 6), 0, x -> x.lakeTold(1, 0, 1), 0);
        taken("surface 99", x -> x.lake(1, 2000, 1000, 99, 6), 0, x -> x.lakeTold(1, 0, 1), 99);
        outside("surface", 0, 99, (x, n) -> x.lake(1, 2000, 1000, n, 6), BAD);
        taken("release 0", x -> x.lake(1, 2000, 1000, 7, 0), 0, x -> x.release(1, 5), 0);
        taken("release 9999", x -> x.lake(1, 2000, 1000, 7, 9999), 0, x -> x.release(1, 5), 9999);
        outside("release", 0, 9999, (x, n) -> x.lake(1, 2000, 1000, 7, n), BAD);
    }

    private void oneAtMost() {
        says(7, "A LAKE at a REACH (one at most)");
        taken("a second one is this now", x -> x.lake(1, 90, 80, 7, 6), 0, x -> x.count(1), 2);
        taken("one at another reach", x -> x.lake(2, 90, 80, 7, 6), 1, x -> x.count(1), 3);
        RiverCompact x = new RiverCompact();
        for (int reach = 0; reach < 6; reach++) {
            x.lake(reach, 1, 1, 1, 1);
        }
        due("the seventh is the last", x.lake(6, 1, 1, 1, 1), 1);
        due("seven", x.count(1), 7);
        due("an eighth is one of them", x.lake(6, 2, 2, 2, 2), 0);
        due("seven still", x.count(1), 7);
        due("it has its own level", x.lakeTold(6, 0, 0), 2);
        RiverCompact y = new RiverCompact();
        y.lake(0, 500, 400, 90, 30);
        y.lake(0, 300, 200, 0, 10);
        due("nothing of the old level", y.lakeTold(0, 1, 0), 190);
        due("nothing of the old surface", y.lakeTold(0, 0, 1), 0);
        due("nothing of the old release", y.lakeTold(0, 0, 2), 10);
        y.side(0, 0, 150);
        due("nothing of the old room", y.lakeTold(0, 1, 0), 300);
    }

    private void release() {
        says(8, "RELEASE of a LAKE: what it was. BAD; -5: there is no LAKE.");
        outside("reach", 0, 6, (x, n) -> x.release(n, 7), BAD);
        taken("n 0", x -> x.release(1, 0), 60, x -> x.release(1, 3), 0);
        taken("n 9999", x -> x.release(1, 9999), 60, x -> x.release(1, 3), 9999);
        outside("n", 0, 9999, (x, n) -> x.release(1, n), BAD);
        taken("none goes out", x -> x.release(1, 0), 60, x -> x.lakeTold(1, 1, 2), 0);
        taken("reach 0", x -> x.lake(0, 90, 80, 7, 6), 1, x -> x.release(0, 5), 6);
        taken("reach 6", x -> x.lake(6, 90, 80, 7, 6), 1, x -> x.release(6, 5), 6);
        taken("its room stays", x -> x.release(4, 1), 30, x -> x.lakeTold(4, 1, 0), 600);
    }

    private void releaseOfNone() {
        says(8, "-5: there is no LAKE.");
        refused("no lake", x -> x.release(0, 7), NO_LAKE);
        refused("no lake at reach 6", x -> x.release(6, 0), NO_LAKE);
        refusedOn(NEW, "no lake at all", x -> x.release(1, 9999), NO_LAKE);
        refused("a refused lake is none", x -> x.lake(0, 9, 10, 0, 0) + x.release(0, 1), BAD + NO_LAKE);
        refused("BAD for n ahead of -5, below", x -> x.release(0, -1), BAD);
        refused("BAD for n ahead of -5, above", x -> x.release(0, 10000), BAD);
    }

    private void lakeTold() {
        says(21, "BAD; -5: there is no LAKE.");
        outside("reach", 0, 6, (x, n) -> x.lakeTold(n, 0, 0), BAD);
        outside("month", 0, 95, (x, n) -> x.lakeTold(1, n, 0), BAD);
        outside("what", 0, 5, (x, n) -> x.lakeTold(1, 0, n), BAD);
        refused("no lake", x -> x.lakeTold(0, 0, 0), NO_LAKE);
        refused("no lake in month 95", x -> x.lakeTold(6, 95, 5), NO_LAKE);
        refused("BAD for a month ahead of -5", x -> x.lakeTold(0, 96, 0), BAD);
        refused("BAD for what ahead of -5", x -> x.lakeTold(0, 0, 6), BAD);
        says(21, "0 LEVEL as it begins, 1 STEAM, 2 OUT, 3 HEAD, 4 POWER, 5 its SALT as the MONTH begins.");
        int[] month0 = {900, 9, 55, 9, 495, 0};
        int[] month1 = {1000, 10, 50, 10, 500, 16};
        for (int what = 0; what < 6; what++) {
            due("month 0, what " + what, brim().lakeTold(3, 0, what), month0[what]);
            due("month 1, what " + what, brim().lakeTold(3, 1, what), month1[what]);
        }
    }

    /** 900 less 9, and 164 with 16 of salt: 55 are too many, and go with none of that. */
    private static RiverCompact brim() {
        RiverCompact x = new RiverCompact();
        x.lake(3, 1000, 900, 10, 50);
        x.side(3, 0, 164);
        x.salt(3, 99);
        return x;
    }

    private static int first(int what, int level, int surface) {
        RiverCompact x = new RiverCompact();
        x.lake(3, 99999, level, surface, 1);
        x.side(3, 0, 5000);
        return x.lakeTold(3, 0, what);
    }

    private void steamAndHead() {
        says(21, "STEAM: LEVEL (as the MONTH begins) times SURFACE by 1000; HEAD: LEVEL by 100");
        due("999 by 1 is cut", first(1, 999, 1), 0);
        due("1000 by 1", first(1, 1000, 1), 1);
        due("1999 by 1 is cut", first(1, 1999, 1), 1);
        due("level 0: nothing of what comes", first(1, 0, 99), 0);
        due("surface 0", first(1, 99999, 0), 0);
        due("the greatest of both", first(1, 99999, 99), 9899);
        due("head of 99", first(3, 99, 0), 0);
        due("head of 100", first(3, 100, 0), 1);
        due("head of 199", first(3, 199, 0), 1);
        due("head of 0", first(3, 0, 0), 0);
        due("head of the greatest", first(3, 99999, 0), 999);
        due("head ahead of steam", first(3, 100, 99), 1);
    }

    /** Of a lake of 5000, by level, surface, release and side of month 0: what goes out, or what is left. */
    private static int outOf(int room, int level, int surface, int release, int side) {
        RiverCompact x = new RiverCompact();
        x.lake(0, room, level, surface, release);
        x.side(0, 0, side);
        return x.lakeTold(0, 0, 2) * 100000 + x.lakeTold(0, 1, 0);
    }

    private void out() {
        says(21, "OUT: RELEASE, as far as that goes");
        due("one less than is there", outOf(5000, 50, 0, 49, 0), 4900000 + 1);
        due("all that is there", outOf(5000, 50, 0, 50, 0), 5000000);
        due("one more than is there", outOf(5000, 50, 0, 51, 0), 5000000);
        due("release 0", outOf(5000, 50, 0, 0, 0), 50);
        due("nothing is there", outOf(5000, 0, 0, 9999, 0), 0);
        due("what comes is there, too", outOf(5000, 50, 0, 60, 10), 6000000);
        due("one more than came", outOf(5000, 0, 0, 11, 10), 1000000);
        due("what steams is not", outOf(5000, 1000, 10, 1000, 0), 99000000);
        due("what steams is not, but what comes", outOf(5000, 1000, 10, 994, 5), 99400000 + 1);
    }

    private void overRoom() {
        says(21, "what is left above ROOM goes OUT, too");
        due("full, and nothing comes", outOf(100, 100, 0, 0, 0), 100);
        due("full, and 1 comes", outOf(100, 100, 0, 0, 1), 100000 + 100);
        due("1 below full, and 1 comes", outOf(100, 99, 0, 0, 1), 100);
        due("the room is left behind the release", outOf(100, 100, 0, 10, 10), 1000000 + 100);
        due("1 more than the room is left", outOf(100, 100, 0, 10, 11), 1100000 + 100);
        due("1 less than the room is left", outOf(100, 100, 0, 10, 9), 1000000 + 99);
        due("room 0", outOf(0, 0, 0, 3, 70), 7000000);
        due("room 0, release above what comes", outOf(0, 0, 0, 71, 70), 7000000);
        due("steam makes room", outOf(1000, 1000, 10, 0, 10), 1000);
        due("steam makes room for no more", outOf(1000, 1000, 10, 0, 11), 100000 + 1000);
    }

    /** Salt that goes out in month 0, times 1000, and what stays; the side brings a tenth less of it, cut. */
    private static int saltOut(int level, int release, int side) {
        RiverCompact x = new RiverCompact();
        x.lake(0, 5000, level, 0, release);
        x.side(0, 0, side);
        x.salt(0, 99);
        return x.told(0, 0, 6) * 1000 + x.lakeTold(0, 1, 5);
    }

    private void saltOfOut() {
        says(21, "SALT of OUT: SALT in it times OUT by what was in it (0 of nothing); the rest of both stays.");
        due("nothing was in it", saltOut(0, 9, 0), 0);
        due("none goes out", saltOut(0, 0, 100), 9);
        due("all goes out", saltOut(0, 100, 100), 9000);
        due("99 of 100 are cut", saltOut(0, 99, 100), 8001);
        due("1 of 100 is cut", saltOut(0, 1, 100), 9);
        due("11 of 100 are cut", saltOut(0, 11, 100), 9);
        due("12 of 100", saltOut(0, 12, 100), 1008);
        due("the level has none at first", saltOut(1000, 100, 100), 9);
        due("of the level and what comes", saltOut(800, 100, 100), 1008);
        due("1 less is cut", saltOut(801, 100, 100), 9);
        RiverCompact x = new RiverCompact();
        x.side(0, 0, 1000);
        x.salt(0, 99);
        x.hold(HOLD, 0, 0, 9999, 0);
        x.lake(1, 100, 0, 0, 10);
        due("salt came and no water: none goes out", x.told(1, 1, 6), 0);
        due("it stays", x.lakeTold(1, 2, 5), 119);
    }

    private static int power(int room, int level, int release, int side) {
        RiverCompact x = new RiverCompact();
        x.lake(0, room, level, 0, release);
        x.side(0, 0, side);
        return x.lakeTold(0, 0, 4);
    }

    private void powerOfOut() {
        says(21, "POWER: HEAD times OUT. WATER is OUT; else it is COMES.");
        due("head 0", power(900, 99, 50, 0), 0);
        due("head 1", power(900, 100, 50, 0), 50);
        due("head as the month begins", power(900, 100, 50, 500), 50);
        due("out 0", power(900, 900, 0, 0), 0);
        due("what has no room, too", power(900, 900, 50, 150), 9 * 150);
        due("as far as that goes", power(900, 300, 9999, 0), 900);
        due("the greatest head", power(99999, 99999, 9999, 9999), 999 * 9999);
        due("water is out", Rivers.rich().told(4, 0, 3), outOf4());
        due("out is water", Rivers.rich().lakeTold(4, 0, 2), outOf4());
        due("without a lake water is what comes", Rivers.rich().told(3, 0, 3), comesTo3());
        due("what comes where there is no lake", Rivers.rich().told(3, 0, 2), comesTo3());
        RiverCompact x = new RiverCompact();
        x.lake(2, 5000, 500, 0, 100);
        x.hold(HOLD, 0, 2, 30, 0);
        due("a hold takes of what is out: out", x.lakeTold(2, 0, 2), 100);
        due("a hold takes of what is out: power", x.lakeTold(2, 0, 4), 500);
        due("a hold takes of what is out: water", x.told(2, 0, 3), 100);
        due("a hold takes of what is out: on", x.told(2, 0, 4), 70);
    }

    /** What comes to reach 3 of the rich river in month 0: 60 out of reach 1 and two sides. */
    private static int comesTo3() {
        return 60 + 302 + 303;
    }

    /** What goes out at reach 4 then: it has room for 600, and 495 are left; the half takes 240 by its gauge. */
    private static int outOf4() {
        return 495 + comesTo3() - 240 + 304 - 600;
    }

    private void months() {
        says(21, "LEVEL as it begins");
        RiverCompact x = new RiverCompact();
        x.lake(6, 9999, 960, 0, 10);
        due("month 0 has the level at first", x.lakeTold(6, 0, 0), 960);
        due("month 1 has what is left", x.lakeTold(6, 1, 0), 950);
        due("month 95 has 950 less", x.lakeTold(6, 95, 0), 10);
        due("and lets the last of it go", x.lakeTold(6, 95, 2), 10);
        due("no salt in month 0", x.lakeTold(6, 0, 5), 0);
        x.release(6, 11);
        due("nothing is left in month 88", x.lakeTold(6, 88, 0), 0);
        due("3 were left ahead of it", x.lakeTold(6, 87, 2), 3);
    }
}
