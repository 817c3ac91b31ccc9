/** Promises 31 and 32: whom to leave dry, and how many there are of what. */
final class DryCases extends Cases {
    DryCases(Check check) {
        super(check);
    }

    @Override
    void work() {
        bits();
        bounds();
        noSet();
        inAllMonths();
        least();
        likeOnes();
        getsInAllMonths();
        wantsNothing();
        count();
        countsOfNone();
        countsOfAll();
    }

    private void bits() {
        says(31, "LEFT DRY: of told HOLDS (bits, 6 at most) a set");
        due("no bits", leavesAll(RICH, "dry(0, 99999)", x -> x.dry(0, 99999)), 0);
        due("all six", leavesAll(RICH, "dry(63, 99999)", x -> x.dry(63, 99999)), 0);
        outside("bits", 0, 63, (x, n) -> x.dry(n, 99999), BAD);
        due("no hold at all", new RiverCompact().dry(0, 0), 0);
        refusedOn(NEW, "bit 0 of no hold", x -> x.dry(1, 99999), BAD);
        River full = Rivers::fullOfHolds;
        due("the last of sixteen", Rivers.fullOfHolds().dry(1 << 15, 99999), 0);
        due("the first six of sixteen", Rivers.fullOfHolds().dry(63, 99999), 0);
        due("the last six of sixteen", Rivers.fullOfHolds().dry(63 << 10, 99999), 0);
        due("six far apart", Rivers.fullOfHolds().dry(0x9249, 99999), 0);
        refusedOn(full, "the first seven", x -> x.dry(127, 99999), BAD);
        refusedOn(full, "the last seven", x -> x.dry(127 << 9, 99999), BAD);
        refusedOn(full, "all sixteen", x -> x.dry((1 << 16) - 1, 99999), BAD);
        refusedOn(full, "seven far apart", x -> x.dry(0x924b, 99999), BAD);
        refusedOn(full, "bit 16", x -> x.dry(1 << 16, 99999), BAD);
        refusedOn(full, "bit 30", x -> x.dry(1 << 30, 99999), BAD);
        refusedOn(full, "bit 31", x -> x.dry(MIN, 99999), BAD);
        refusedOn(full, "all bits", x -> x.dry(-1, 99999), BAD);
    }

    /** A hold takes 50 for each of salt at reach 5 in month 10: it goes over the border a month later, with so much water. */
    private static RiverCompact ofSalt(int salt, int water) {
        RiverCompact x = new RiverCompact();
        x.flood(5, 10, 50 * salt);
        x.hold(HOLD, 0, 5, 50 * salt, 0);
        x.flood(6, 11, water);
        return x;
    }

    private void bounds() {
        says(31, "BAD: bits, bound (0 .. 99999); NONE: no set does.");
        outside("bound", 0, 99999, (x, n) -> x.dry(1, n), BAD);
        refused("both wrong", x -> x.dry(64, -1), BAD);
        refused("BAD for bits ahead of NONE", x -> x.dry(64, 0), BAD);
        due("bound 0 is kept by a set", leavesAll(() -> ofSalt(1, 1000), "dry(1, 0)", x -> x.dry(1, 0)), 1);
        due("bound 99999 and 99000", ofSalt(99, 1).dry(1, 99999), 0);
        due("bound 99999 and 100000", ofSalt(100, 1).dry(1, 99999), 1);
        says(31, "so that SHARP is at most a bound");
        due("as sharp as the bound", ofSalt(1, 1000).dry(1, 1), 0);
        due("one sharper", ofSalt(1, 500).dry(1, 1), 1);
        due("one less sharp", ofSalt(1, 1001).dry(1, 1), 0);
        due("bound 0 and less than 1", ofSalt(1, 1001).dry(1, 0), 0);
        due("bound 0 and 1", ofSalt(1, 1000).dry(1, 0), 1);
        due("bound 99000 and 99000", ofSalt(99, 1).dry(1, 99000), 0);
        due("bound 98999 and 99000", ofSalt(99, 1).dry(1, 98999), 1);
        due("bound 0 and salt without water", ofSalt(99, 0).dry(1, 0), 0);
    }

    /** In a month 100 come with 9 of salt, of which a hold takes 11 without salt: 101 sharp, 90 if it is dry. */
    private static RiverCompact sharpIn(int... months) {
        RiverCompact x = new RiverCompact();
        x.salt(6, 99);
        for (int month : months) {
            x.flood(6, month, 100);
            Rivers.holdIn(x, month, HOLD, 6, 11, 0);
        }
        return x;
    }

    private void noSet() {
        says(31, "NONE: no set does.");
        refusedOn(() -> sharpIn(50), "89, for 90 are there", x -> x.dry(1, 89), NONE);
        refusedOn(() -> sharpIn(50), "100, and none may be dry", x -> x.dry(0, 100), NONE);
        due("101, and none may be dry", sharpIn(50).dry(0, 101), 0);
        due("90", sharpIn(50).dry(1, 90), 1);
        due("0", sharpIn(50).dry(1, 0), NONE);
        due("99999, and none may be dry", ofSalt(100, 1).dry(0, 99999), NONE);
    }

    private void inAllMonths() {
        says(31, "SHARP is at most a bound in all MONTHS");
        for (int month = 0; month < 96; month += 19) {
            due("90 in month " + month, sharpIn(month).dry(1, 89), NONE);
            due("90 in month " + month + " if it is dry", sharpIn(month).dry(1, 90), 1);
            due("101 in month " + month + " are too many", sharpIn(month).dry(1, 100), 1);
            due("101 in month " + month + " are not", sharpIn(month).dry(1, 101), 0);
        }
        due("both month 0 and month 95", sharpIn(0, 95).dry(3, 100), 3);
        due("month 0 alone does not", sharpIn(0, 95).dry(1, 100), NONE);
        due("month 95 alone does not", sharpIn(0, 95).dry(2, 100), NONE);
        due("neither needs to", sharpIn(0, 95).dry(3, 101), 0);
    }

    /** Holds of 100, 150 and 250 bring 2, 3 and 5 of salt to 1000 of water. */
    private static RiverCompact three(int first, int second, int third) {
        RiverCompact x = new RiverCompact();
        x.flood(5, 10, 9999);
        x.hold(HOLD, 0, 5, first, 0);
        x.hold(HOLD, 0, 5, second, 0);
        x.hold(HOLD, 0, 5, third, 0);
        x.flood(6, 11, 1000);
        return x;
    }

    private void least() {
        says(31, "for which the sum of what they get in all MONTHS (if none is LEFT DRY) is least");
        int[] sets = {7, 7, 6, 5, 5, 3, 3, 2, 1, 1, 0};
        for (int bound = 0; bound <= 10; bound++) {
            due("bound " + bound, three(100, 150, 250).dry(7, bound), sets[bound]);
        }
        int[] reversed = {7, 7, 3, 5, 5, 1, 1, 2, 4, 4, 0};
        for (int bound = 0; bound <= 10; bound++) {
            due("the other way round, bound " + bound, three(250, 150, 100).dry(7, bound), reversed[bound]);
        }
        due("of the first two", three(100, 150, 250).dry(3, 5), 3);
        due("of the first two none does", three(100, 150, 250).dry(3, 4), NONE);
        due("of the last two", three(100, 150, 250).dry(6, 9), 2);
        due("of the outer two", three(100, 150, 250).dry(5, 7), 4);
        due("of the last alone", three(100, 150, 250).dry(4, 9), 4);
        due("of the last alone, no less", three(100, 150, 250).dry(4, 4), NONE);
    }

    private void likeOnes() {
        says(31, "of like ones the least as bits");
        due("two like 250 told last", three(100, 150, 250).dry(7, 6), 3);
        due("two like 250 told first", three(250, 150, 100).dry(7, 6), 1);
        due("two like 250 around", three(150, 250, 100).dry(7, 6), 2);
        due("three alike", three(100, 100, 100).dry(7, 5), 1);
        due("three alike, two of them", three(100, 100, 100).dry(7, 3), 3);
        due("three alike, of the last two", three(100, 100, 100).dry(6, 5), 2);
        due("what gets nothing is not added", three(0, 100, 0).dry(7, 1), 2);
        due("nor is it needed", three(0, 100, 0).dry(5, 2), 0);
    }

    private void getsInAllMonths() {
        says(31, "the sum of what they get in all MONTHS");
        int[] months = {0, 30, 95};
        for (int month : months) {
            RiverCompact x = new RiverCompact();
            x.flood(5, 10, 9999);
            x.flood(6, 11, 1000);
            x.hold(HOLD, 0, 5, 50, 0);
            x.hold(HOLD, 0, 5, 60, 1);
            due("50 are less than 60", x.dry(3, 1), 1);
            x.flood(5, month, 9);
            due("59 are less than 60, month " + month, x.dry(3, 1), 1);
            x.flood(5, month, 1);
            due("60 are as much as 60, month " + month, x.dry(3, 1), 1);
            x.flood(5, month, 1);
            due("61 are more than 60, month " + month, x.dry(3, 1), 2);
        }
    }

    private void wantsNothing() {
        says(31, "a set that WANTS nothing in any MONTH");
        RiverCompact x = new RiverCompact();
        x.flood(5, 10, 100);
        x.flood(6, 11, 1000);
        x.hold(HOLD, 0, 5, 100, 0);
        x.hold(HOLD, 0, 5, 100, 1);
        due("another one takes it in its place", x.dry(1, 1), NONE);
        due("the other one takes nothing now", x.dry(2, 1), NONE);
        due("both", x.dry(3, 1), 3);
        due("asking leaves it as it was", x.takes(0, 10, 1), 100);
        due("and what it gets", x.takes(0, 10, 2), 100);
        RiverCompact y = ofSalt(1, 1000);
        due("it must be dry", y.dry(1, 0), 1);
        y.force(0, 11, 96);
        due("it is not in force, and need not", y.dry(1, 0), 0);
        RiverCompact z = ofSalt(1, 1000);
        z.rule(0, Rivers.text(z, "may month < 10;cut 0;"));
        due("by its text it may not, and need not", z.dry(1, 0), 0);
        for (int level = 70; level <= 71; level++) {
            RiverCompact v = ofSalt(1, 1000);
            v.lake(0, 100, level, 0, 0);
            v.rule(0, Rivers.text(v, "may level < 71;cut 0;"));
            due("by a level of " + level, v.dry(1, 0), 71 - level);
        }
        RiverCompact u = ofSalt(1, 1000);
        u.hold(HOLD, 0, 5, 50, 1);
        u.call(0, 10);
        due("one that is shut takes nothing in its place", u.dry(1, 0), 1);
        due("nor need it be dry", u.dry(3, 0), 1);
    }

    private void count() {
        says(32, "How many: 0 HOLDS, 1 LAKES, 2 FLOODS, 3 GAUGES, 4 CALLS, 5 TEXTS, 6 bytes of THE TAPE, 7 .. 10 the TEXT "
            + "of STATE 0 .. 3. BAD.");
        int[] rich = {6, 2, 3, 3, 2, 2, 5, 0, 1, 0, 0};
        for (int what = 0; what <= 10; what++) {
            due("what " + what, Rivers.rich().count(what), rich[what]);
        }
        outside("what", 0, 10, (x, n) -> x.count(n), BAD);
        outsideOn(NEW, "what", 0, 10, (x, n) -> x.count(n), BAD);
        for (int state = 0; state < 4; state++) {
            int s = state;
            taken("the text of state " + s, x -> x.rule(s, 1), s == 1 ? 1 : 0, x -> x.count(7 + s), 1);
        }
    }

    private void countsOfNone() {
        says(32, "How many: 0 HOLDS, 1 LAKES, 2 FLOODS, 3 GAUGES, 4 CALLS, 5 TEXTS, 6 bytes of THE TAPE");
        taken("a refused hold is none", x -> x.hold(6, 0, 0, 0, 0), BAD, x -> x.count(0), 6);
        taken("a refused lake is none", x -> x.lake(0, 1, 2, 0, 0), BAD, x -> x.count(1), 2);
        taken("a lake told again is no other", x -> x.lake(1, 1, 1, 0, 0), 0, x -> x.count(1), 2);
        taken("a refused flood is none", x -> x.flood(0, 96, 0), BAD, x -> x.count(2), 3);
        taken("a refused gauge is none", x -> x.gauge(0, 96, 0), BAD, x -> x.count(3), 3);
        taken("a refused call is none", x -> x.call(6, 0), BAD, x -> x.count(4), 2);
        taken("a fault is no text", x -> x.text(), -105, x -> x.count(5), 2);
        taken("refused bytes are none", x -> x.feed(9, 0), BAD, x -> x.count(6), 5);
        taken("what is found is no hold", x -> x.found(0, 0, 1, 0), Rivers.rich().found(0, 0, 1, 0), x -> x.count(0), 6);
    }

    private void countsOfAll() {
        says(32, "How many: 0 HOLDS");
        due("holds", Rivers.fullOfHolds().count(0), 16);
        due("floods", Rivers.fullOfFloods().count(2), 24);
        due("gauges", Rivers.fullOfGauges().count(3), 40);
        due("calls", Rivers.fullOfCalls().count(4), 16);
        due("texts", Rivers.fullOfTexts().count(5), 6);
        due("bytes", Rivers.withFullTape().count(6), 160);
        RiverCompact x = new RiverCompact();
        for (int reach = 0; reach < 7; reach++) {
            x.lake(reach, 0, 0, 0, 0);
            due("lakes", x.count(1), reach + 1);
        }
        due("text 5 of a state", textFiveOf3(), 5);
    }

    private static int textFiveOf3() {
        RiverCompact x = Rivers.fullOfTexts();
        x.rule(3, 5);
        return x.count(10);
    }
}
