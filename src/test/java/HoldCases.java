/** Promises 9 to 11 and 13: holds, the months in which they are in force, what is told of them. */
final class HoldCases extends Cases {
    HoldCases(Check check) {
        super(check);
    }

    @Override
    void work() {
        holdNumbers();
        holdAmounts();
        holdsFull();
        force();
        inForce();
        holdTold();
        ranks();
        backs();
        all();
        allOfMonths();
    }

    private void holdNumbers() {
        says(9, "HOLDS (16 at most, numbered from 0) have a KIND: 0 HOLD, 1 RIGHT under HOLD");
        taken("kind 0", x -> x.hold(0, 1, 2, 30, 40), 6, x -> x.holdTold(6, 0), 0);
        taken("kind 5", x -> x.hold(5, 1, 2, 30, 40), 6, x -> x.holdTold(6, 0), 5);
        outside("kind", 0, 5, (x, n) -> x.hold(n, 1, 2, 30, 40), BAD);
        due("numbered from 0", new RiverCompact().hold(0, 0, 0, 0, 0), 0);
        taken("a refused one takes no number", x -> x.hold(6, 1, 2, 30, 40), BAD, x -> x.hold(0, 1, 2, 30, 40), 6);
        says(9, "a STATE (0 .. 3), a REACH, a number n");
        taken("state 0", x -> x.hold(0, 0, 2, 30, 40), 6, x -> x.holdTold(6, 1), 0);
        taken("state 3", x -> x.hold(0, 3, 2, 30, 40), 6, x -> x.holdTold(6, 1), 3);
        outside("state", 0, 3, (x, n) -> x.hold(0, n, 2, 30, 40), BAD);
        taken("reach 0", x -> x.hold(0, 1, 0, 30, 40), 6, x -> x.holdTold(6, 2), 0);
        taken("reach 6", x -> x.hold(0, 1, 6, 30, 40), 6, x -> x.holdTold(6, 2), 6);
        outside("reach", 0, 6, (x, n) -> x.hold(0, 1, n, 30, 40), BAD);
        refused("all of it wrong", x -> x.hold(6, 4, 7, 10000, 10000), BAD);
    }

    private void holdAmounts() {
        says(9, "a number n (0 .. 9999; of HALVES 0 .. 100), SINCE (0 .. 9999)");
        for (int kind = 0; kind < 6; kind++) {
            int k = kind;
            int most = kind == HALF ? 100 : 9999;
            taken("kind " + k + " of 0", x -> x.hold(k, 1, 2, 0, 40), 6, x -> x.holdTold(6, 3), 0);
            taken("kind " + k + " of " + most, x -> x.hold(k, 1, 2, most, 40), 6, x -> x.holdTold(6, 3), most);
            refused("kind " + k + " of -1", x -> x.hold(k, 1, 2, -1, 40), BAD);
            refused("kind " + k + " of " + (most + 1), x -> x.hold(k, 1, 2, most + 1, 40), BAD);
        }
        taken("a right of 101 is no half", x -> x.hold(RIGHT, 1, 2, 101, 40), 6, x -> x.holdTold(6, 3), 101);
        taken("a reserve of 101 is no half", x -> x.hold(RESERVE, 1, 2, 101, 40), 6, x -> x.holdTold(6, 3), 101);
        outside("n", 0, 9999, (x, n) -> x.hold(0, 1, 2, n, 40), BAD);
        outside("n of a half", 0, 100, (x, n) -> x.hold(HALF, 1, 2, n, 40), BAD);
        taken("since 0", x -> x.hold(0, 1, 2, 30, 0), 6, x -> x.holdTold(6, 4), 0);
        taken("since 9999", x -> x.hold(0, 1, 2, 30, 9999), 6, x -> x.holdTold(6, 4), 9999);
        outside("since", 0, 9999, (x, n) -> x.hold(0, 1, 2, 30, n), BAD);
        outside("since of a half", 0, 9999, (x, n) -> x.hold(HALF, 1, 2, 30, n), BAD);
    }

    private void holdsFull() {
        says(9, "A HOLD (in force from MONTH 0 on, in all): its number. BAD; FULL.");
        taken("in force in month 0", x -> x.hold(0, 0, 6, 30, 40), 6, x -> x.takes(6, 0, 1), 30);
        taken("in force in month 95", x -> x.hold(0, 0, 6, 30, 40), 6, x -> x.takes(6, 95, 1), 30);
        RiverCompact x = new RiverCompact();
        for (int i = 0; i < 15; i++) {
            x.hold(HOLD, 0, 0, i, 0);
        }
        due("the last that has room", x.hold(HOLD, 0, 0, 15, 0), 15);
        due("the first that has none", x.hold(HOLD, 0, 0, 16, 0), FULL);
        due("how many", x.count(0), 16);
        due("the sixteenth", x.holdTold(15, 3), 15);
        due("no seventeenth", x.holdTold(16, 3), BAD);
        River full = Rivers::fullOfHolds;
        refusedOn(full, "full", y -> y.hold(ANCIENT, 3, 6, 9999, 9999), FULL);
        refusedOn(full, "BAD for a kind ahead of FULL", y -> y.hold(6, 0, 0, 0, 0), BAD);
        refusedOn(full, "BAD for a state ahead of FULL", y -> y.hold(0, 4, 0, 0, 0), BAD);
        refusedOn(full, "BAD for a reach ahead of FULL", y -> y.hold(0, 0, 7, 0, 0), BAD);
        refusedOn(full, "BAD for n ahead of FULL", y -> y.hold(HALF, 0, 0, 101, 0), BAD);
        refusedOn(full, "BAD for since ahead of FULL", y -> y.hold(0, 0, 0, 0, -1), BAD);
    }

    private void force() {
        says(10, "(0 .. 96, to at least from): how many those are. BAD.");
        taken("all months", x -> x.force(3, 0, 96), 96, x -> x.takes(3, 95, 1), 25);
        taken("none, at the start", x -> x.force(3, 0, 0), 0, x -> x.takes(3, 0, 1), 0);
        taken("none, at the end", x -> x.force(3, 96, 96), 0, x -> x.takes(3, 95, 1), 0);
        taken("none, between", x -> x.force(3, 40, 40), 0, x -> x.takes(3, 40, 1), 0);
        taken("month 0 alone", x -> x.force(3, 0, 1), 1, x -> x.all(3, 0, 96), 25);
        taken("month 95 alone", x -> x.force(3, 95, 96), 1, x -> x.all(3, 0, 96), 25);
        taken("the first hold", x -> x.force(0, 4, 6), 2, x -> x.all(0, 0, 96), 0);
        taken("the last hold", x -> x.force(5, 4, 6), 2, x -> x.takes(5, 6, 1), 0);
        outside("hold", 0, 5, (x, n) -> x.force(n, 4, 6), BAD);
        refusedOn(NEW, "no hold at all", x -> x.force(0, 4, 6), BAD);
        outside("from", 0, 96, (x, n) -> x.force(3, n, 96), BAD);
        outside("to", 5, 96, (x, n) -> x.force(3, 5, n), BAD);
        refused("to ahead of from at the end", x -> x.force(3, 96, 95), BAD);
        refused("to 97 with from 97", x -> x.force(3, 97, 97), BAD);
        refused("to -1 with from -1", x -> x.force(3, -1, -1), BAD);
        refused("the other way round", x -> x.force(3, 96, 0), BAD);
    }

    private void inForce() {
        says(10, "MONTHS from .. ahead of another one in which it is in force");
        Call ten = x -> x.force(3, 10, 20);
        taken("ahead of the first", ten, 10, x -> x.takes(3, 9, 1), 0);
        taken("the first", ten, 10, x -> x.takes(3, 10, 1), 25);
        taken("the last", ten, 10, x -> x.takes(3, 19, 1), 25);
        taken("behind the last", ten, 10, x -> x.takes(3, 20, 1), 0);
        taken("not a year on", ten, 10, x -> x.takes(3, 22, 1), 0);
        taken("it asks all the same", ten, 10, x -> x.takes(3, 9, 0), 25);
        taken("told again it is these months alone", x -> x.force(0, 50, 60), 10, x -> x.takes(0, 49, 1), 0);
        taken("another hold's stay", x -> x.force(1, 0, 0), 0, x -> x.takes(3, 0, 1), 25);
    }

    private void holdTold() {
        says(11, "Of a HOLD: 0 KIND, 1 STATE, 2 REACH, 3 n, 4 SINCE, 5 RANK, 6 BACK hundredths. BAD.");
        int[] first = {HOLD, 0, 0, 40, 100, 100, 0};
        int[] last = {ANCIENT, 1, 6, 33, 2500, 500, 50};
        for (int what = 0; what <= 6; what++) {
            due("of the first hold, " + what, Rivers.rich().holdTold(0, what), first[what]);
            due("of the last hold, " + what, Rivers.rich().holdTold(5, what), last[what]);
        }
        outside("what", 0, 6, (x, n) -> x.holdTold(0, n), BAD);
        outside("hold", 0, 5, (x, n) -> x.holdTold(n, 0), BAD);
        refusedOn(NEW, "no hold at all", x -> x.holdTold(0, 0), BAD);
        outsideOn(Rivers::fullOfHolds, "hold of sixteen", 0, 15, (x, n) -> x.holdTold(n, 6), BAD);
        due("the sixteenth", Rivers.fullOfHolds().holdTold(15, 3), 15);
    }

    private static int ofKind(int kind, int since, int what) {
        RiverCompact x = new RiverCompact();
        x.hold(kind, 0, 0, 1, since);
        return x.holdTold(0, what);
    }

    private void ranks() {
        says(11, "RANK: HOLD SINCE; RIGHT as a HOLD; HALF 0; RESERVE 1000 less than a RIGHT; DITCH 1 more than a RIGHT; "
            + "ANCIENT 1000 less than a RESERVE.");
        int[] of0 = {0, 0, 0, -1000, 1, -2000};
        int[] of9999 = {9999, 9999, 0, 8999, 10000, 7999};
        for (int kind = 0; kind < 6; kind++) {
            due("kind " + kind + " since 0", ofKind(kind, 0, 5), of0[kind]);
            due("kind " + kind + " since 9999", ofKind(kind, 9999, 5), of9999[kind]);
        }
        due("a reserve since 1000", ofKind(RESERVE, 1000, 5), 0);
        due("a reserve since 999", ofKind(RESERVE, 999, 5), -1);
        due("a half since 1", ofKind(HALF, 1, 5), 0);
    }

    private void backs() {
        says(11, "BACK hundredths: HOLD 0; RIGHT 40; HALF 20; RESERVE 10 more than a RIGHT; DITCH half of a RIGHT's; "
            + "ANCIENT as a RESERVE.");
        int[] backs = {0, 40, 20, 50, 20, 50};
        for (int kind = 0; kind < 6; kind++) {
            due("kind " + kind, ofKind(kind, 5000, 6), backs[kind]);
        }
    }

    private void all() {
        says(13, "What a HOLD gets in MONTHS from .. ahead of another one, together. NO: none such, MONTHS "
            + "(0 .. 96, to at least from).");
        outside("hold", 0, 5, (x, n) -> x.all(n, 0, 96), NO);
        refusedOn(NEW, "no hold at all", x -> x.all(0, 0, 96), NO);
        refusedOn(NEW, "no hold, and no months", x -> x.all(0, 0, 0), NO);
        outside("from", 0, 96, (x, n) -> x.all(3, n, 96), NO);
        outside("to", 5, 96, (x, n) -> x.all(3, 5, n), NO);
        refused("to ahead of from at the end", x -> x.all(3, 96, 95), NO);
        refused("from and to 97", x -> x.all(3, 97, 97), NO);
        refused("from and to -1", x -> x.all(3, -1, -1), NO);
        due("of the first hold", Rivers.rich().all(0, 0, 96), Rivers.rich().all(0, 2, 90));
        due("of the last hold", Rivers.rich().all(5, 0, 1), 31);
    }

    private static long ofMonths(int from, int to) {
        RiverCompact x = new RiverCompact();
        x.flood(2, 0, 7);
        x.flood(2, 1, 20);
        x.flood(2, 94, 300);
        x.flood(2, 95, 4000);
        x.hold(HOLD, 0, 2, 9999, 0);
        return x.all(0, from, to);
    }

    private void allOfMonths() {
        says(13, "What a HOLD gets in MONTHS from .. ahead of another one, together.");
        due("all", ofMonths(0, 96), 4327);
        due("the first", ofMonths(0, 1), 7);
        due("the second", ofMonths(1, 2), 20);
        due("all but the first", ofMonths(1, 96), 4320);
        due("all but the last", ofMonths(0, 95), 327);
        due("the last", ofMonths(95, 96), 4000);
        due("none at the start", ofMonths(0, 0), 0);
        due("none between", ofMonths(1, 1), 0);
        due("none in the last", ofMonths(95, 95), 0);
        due("none at the end", ofMonths(96, 96), 0);
        RiverCompact x = new RiverCompact();
        Rivers.always(x, 2, 9999);
        for (int year = 0; year < 8; year++) {
            x.flood(2, 12 * year + 6, 9999);
            x.flood(2, 12 * year + 7, 9999);
        }
        x.hold(ANCIENT, 0, 2, 9999, 0);
        due("the most that one can get", x.all(0, 0, 96), 96L * 9999 + 16 * 4999);
    }
}
