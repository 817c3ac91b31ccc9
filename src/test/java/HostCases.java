/** Promises 36 and 37: gauges by a sheet, a hold taken for one of a kind. */
final class HostCases extends Cases {
    private static final int BYTES = 0, SHORTS = 1, INTS = 2;

    HostCases(Check check) {
        super(check);
    }

    @Override
    void work() {
        gauges();
        refusalsInTurn();
        howMany();
        places();
        months();
        othersLeftOut();
        noRoom();
        taken();
        takenKinds();
    }

    private void gauges() {
        says(36, "BAD: no such REACH, MONTH, SHEET, sort, n; -13; -11; -12: what stood ahead came.");
        taken("reach 0", x -> x.gauges(0, 50, 1, 1, 0, 1), 1, x -> x.read(0, 50), 21);
        taken("reach 6", x -> x.gauges(6, 50, 1, 1, 0, 1), 1, x -> x.read(6, 50), 21);
        outside("reach", 0, 6, (x, n) -> x.gauges(n, 50, 1, 1, 0, 1), BAD);
        taken("month 0", x -> x.gauges(2, 0, 1, 1, 0, 1), 1, x -> x.read(2, 0), 21);
        taken("month 95", x -> x.gauges(2, 95, 1, 1, 0, 1), 1, x -> x.read(2, 95), 21);
        outside("month", 0, 95, (x, n) -> x.gauges(2, n, 1, 1, 0, 1), BAD);
        taken("sheet 0", x -> x.gauges(2, 50, 0, 0, 0, 1), 1, x -> x.read(2, 50), 11);
        taken("sheet 3", x -> x.sheet(3, 1, 5) + x.cell(3, 4, 9) + x.gauges(2, 50, 3, 1, 4, 1), 3, x -> x.read(2, 50), 9);
        outside("sheet", 0, 3, (x, n) -> x.gauges(2, 50, n, 1, 0, 1), BAD);
        taken("sort 2", x -> x.gauges(2, 50, 2, 2, 2, 1), 1, x -> x.read(2, 50), 33);
        outside("sort", 0, 2, (x, n) -> x.gauges(2, 50, 1, n, 0, 1), BAD);
        outside("sort of a missing one", 0, 2, (x, n) -> x.gauges(2, 50, 3, n, 0, 1), BAD);
        outside("n", 0, 24, (x, n) -> x.gauges(2, 50, 1, 1, 0, n), BAD);
        refused("all of it wrong", x -> x.gauges(7, 96, 4, 3, -1, 25), BAD);
    }

    private void refusalsInTurn() {
        says(36, "-13; -11; -12: what stood ahead came");
        for (int sheet = 0; sheet < 3; sheet++) {
            for (int sort = 0; sort < 3; sort++) {
                int s = sheet;
                int t = sort;
                if (s != t) {
                    refused("sheet of " + s + " taken for " + t, x -> x.gauges(2, 50, s, t, 0, 1), OTHER_SORT);
                    refused("sheet of " + s + " taken for " + t + ", none", x -> x.gauges(2, 50, s, t, 0, 0), OTHER_SORT);
                    refused("-13 ahead of -12, " + s + " for " + t, x -> x.gauges(2, 50, s, t, -1, 1), OTHER_SORT);
                }
            }
            int u = sheet;
            refused("a missing one taken for " + u, x -> x.gauges(2, 50, 3, u, 0, 1), NOTHING);
            refused("a missing one taken for " + u + ", none", x -> x.gauges(2, 50, 3, u, 0, 0), NOTHING);
            refused("-11 ahead of -12, taken for " + u, x -> x.gauges(2, 50, 3, u, -1, 24), NOTHING);
        }
        refused("BAD for a reach ahead of -13", x -> x.gauges(7, 50, 1, 2, 0, 1), BAD);
        refused("BAD for a month ahead of -13", x -> x.gauges(2, 96, 1, 2, 0, 1), BAD);
        refused("BAD for a sort ahead of -13", x -> x.gauges(2, 50, 1, 3, 0, 1), BAD);
        refused("BAD for n ahead of -13", x -> x.gauges(2, 50, 1, 2, 0, 25), BAD);
        refused("BAD for n ahead of -11", x -> x.gauges(2, 50, 3, 1, 0, -1), BAD);
        refused("BAD for a reach ahead of -11", x -> x.gauges(-1, 50, 3, 1, 0, 1), BAD);
        refused("BAD for a month ahead of -11", x -> x.gauges(2, -1, 3, 1, 0, 1), BAD);
        refused("BAD for n ahead of -12", x -> x.gauges(2, 50, 1, 1, -1, 25), BAD);
        refused("BAD for a sort ahead of -12", x -> x.gauges(2, 50, 1, -1, 9, 1), BAD);
        refused("BAD for a reach ahead of -12", x -> x.gauges(7, 50, 1, 1, 9, 1), BAD);
    }

    private void howMany() {
        says(36, "from one on, n of them (0 .. 24): how many came");
        River river = Rivers::withLongSheets;
        due("n 0", leavesAll(river, "gauges(2, 50, 1, 1, 0, 0)", x -> x.gauges(2, 50, 1, 1, 0, 0)), 0);
        takenOn(river, "n 1", x -> x.gauges(2, 50, 1, 1, 39, 1), 1, x -> x.read(2, 50), 82);
        takenOn(river, "n 1 is a gauge", x -> x.gauges(2, 50, 1, 1, 39, 1), 1, x -> x.count(3), 4);
        takenOn(river, "n 24", x -> x.gauges(2, 50, 1, 1, 16, 24), 24, x -> x.read(2, 73), 82);
        takenOn(river, "n 24 are gauges", x -> x.gauges(2, 50, 1, 1, 0, 24), 24, x -> x.count(3), 27);
        takenOn(river, "the first of 24", x -> x.gauges(2, 50, 1, 1, 0, 24), 24, x -> x.read(2, 50), 72);
        takenOn(river, "not one more than 24", x -> x.gauges(2, 50, 1, 1, 15, 24), 24, x -> x.read(2, 74), 0);
        refusedOn(river, "n 25", x -> x.gauges(2, 50, 1, 1, 0, 25), BAD);
        due("none of none", leavesAll(river, "gauges(2, 50, 3, 0, 0, 0)", x -> x.gauges(2, 50, 3, 0, 0, 0)), 0);
        refusedOn(river, "one of none", x -> x.gauges(2, 50, 3, 0, 0, 1), OUTSIDE);
    }

    private void places() {
        says(36, "-12: what stood ahead came");
        taken("the last alone", x -> x.gauges(2, 50, 1, 1, 2, 1), 1, x -> x.read(2, 50), 23);
        taken("all three", x -> x.gauges(2, 50, 1, 1, 0, 3), 3, x -> x.read(2, 52), 23);
        taken("one too many", x -> x.gauges(2, 50, 1, 1, 0, 4), OUTSIDE, x -> x.count(3), 6);
        taken("the third came", x -> x.gauges(2, 50, 1, 1, 0, 4), OUTSIDE, x -> x.read(2, 52), 23);
        taken("the first came", x -> x.gauges(2, 50, 1, 1, 0, 4), OUTSIDE, x -> x.read(2, 50), 21);
        taken("the last came, one too many", x -> x.gauges(2, 50, 1, 1, 2, 2), OUTSIDE, x -> x.read(2, 50), 23);
        taken("many too many", x -> x.gauges(2, 50, 1, 1, 1, 24), OUTSIDE, x -> x.count(3), 5);
        refused("from behind the last", x -> x.gauges(2, 50, 1, 1, 3, 1), OUTSIDE);
        refused("from -1", x -> x.gauges(2, 50, 1, 1, -1, 1), OUTSIDE);
        refused("from -1, three of which are there", x -> x.gauges(2, 50, 1, 1, -1, 4), OUTSIDE);
        refused("from the least int", x -> x.gauges(2, 50, 1, 1, MIN, 24), OUTSIDE);
        refused("from the greatest int", x -> x.gauges(2, 50, 1, 1, MAX, 24), OUTSIDE);
        int[] anywhere = {3, 4, -1, MIN, MAX};
        for (int from : anywhere) {
            due("none from " + from, leavesAll(RICH, "none from " + from, x -> x.gauges(2, 50, 1, 1, from, 0)), 0);
        }
        taken("behind month 95, one too many", x -> x.gauges(2, 95, 1, 1, 2, 2), OUTSIDE, x -> x.read(2, 95), 23);
    }

    private void months() {
        says(36, "GAUGES of a REACH for a MONTH and those behind it");
        taken("month 95 alone has a place", x -> x.gauges(2, 95, 1, 1, 0, 3), 1, x -> x.read(2, 95), 21);
        taken("months 94 and 95", x -> x.gauges(2, 94, 1, 1, 0, 3), 2, x -> x.read(2, 95), 22);
        taken("months 93 to 95", x -> x.gauges(2, 93, 1, 1, 0, 3), 3, x -> x.read(2, 95), 23);
        taken("none comes to month 0", x -> x.gauges(0, 95, 1, 1, 0, 3), 1, x -> x.read(0, 0), 800);
        taken("none comes to the next reach's month 0", x -> x.gauges(2, 95, 1, 1, 0, 3), 1, x -> x.read(3, 0), 800);
        taken("those have no number", x -> x.gauges(2, 95, 1, 1, 0, 3), 1, x -> x.count(3), 4);
        taken("at reach 6, too", x -> x.gauges(6, 95, 1, 1, 0, 3), 1, x -> x.read(6, 95), 21);
        takenOn(Rivers::withLongSheets, "24 from month 72", x -> x.gauges(2, 72, 1, 1, 0, 24), 24, x -> x.read(2, 72), 72);
        takenOn(Rivers::withLongSheets, "24 from month 73", x -> x.gauges(2, 73, 1, 1, 0, 24), 23, x -> x.count(3), 26);
        taken("not the month ahead", x -> x.gauges(2, 50, 1, 1, 0, 3), 3, x -> x.read(2, 49), 0);
        taken("not the month behind", x -> x.gauges(2, 50, 1, 1, 0, 3), 3, x -> x.read(2, 53), 0);
        taken("told last", x -> x.gauges(0, 0, 1, 1, 0, 1), 1, x -> x.read(0, 0), 21);
    }

    /** How many came of a row, and what the last month reads then, if one of 9 is told ahead. */
    private void comes(String name, int sort, int number, int came, int reads) {
        RiverCompact x = SheetCases.row(sort, 4, number, 6);
        x.gauge(1, 31, 9);
        due(name + ": how many", x.gauges(1, 30, 0, sort, 0, 3), came);
        due(name + ": its month", x.read(1, 31), reads);
        due(name + ": the month behind", x.read(1, 32), 6);
        due(name + ": gauges", x.count(3), 1 + came);
    }

    private void othersLeftOut() {
        says(36, "how many came (others are left out, their MONTHS too)");
        comes("0", INTS, 0, 3, 0);
        comes("99999", INTS, 99999, 3, 99999);
        comes("100000", INTS, 100000, 2, 9);
        comes("-1", INTS, -1, 2, 9);
        comes("the least int", INTS, MIN, 2, 9);
        comes("the greatest int", INTS, MAX, 2, 9);
        comes("a short of 32767", SHORTS, 32767, 3, 32767);
        comes("a short of -32768", SHORTS, 32768, 2, 9);
        comes("a short of -1", SHORTS, -1, 2, 9);
        comes("a byte of 127", BYTES, 127, 3, 127);
        comes("a byte of -128", BYTES, 128, 2, 9);
        comes("a byte of -1", BYTES, 255, 2, 9);
        RiverCompact x = SheetCases.row(INTS, -1, -1, 5);
        due("the first two are left out", x.gauges(0, 0, 0, INTS, 0, 3), 1);
        due("the third has the third month", x.read(0, 2), 5);
        due("the first has none", x.read(0, 0) + x.read(0, 1), 0);
        RiverCompact y = SheetCases.row(INTS, -1, 100000);
        due("all are left out", y.gauges(0, 0, 0, INTS, 0, 2), 0);
        due("what is left out, one too many", y.gauges(0, 0, 0, INTS, 0, 3), OUTSIDE);
        due("none came", y.count(3), 0);
    }

    private void noRoom() {
        says(36, "others are left out");
        RiverCompact x = SheetCases.row(INTS, 4, 5, 6);
        for (int i = 0; i < 38; i++) {
            x.gauge(6, 0, i);
        }
        due("two of three have room", x.gauges(0, 10, 0, INTS, 0, 3), 2);
        due("the second came", x.read(0, 11), 5);
        due("the third did not", x.read(0, 12), 0);
        due("40 there are", x.count(3), 40);
        due("none has room", x.gauges(0, 20, 0, INTS, 0, 3), 0);
        due("none came", x.read(0, 20), 0);
        due("none has room, one too many", x.gauges(0, 20, 0, INTS, 0, 4), OUTSIDE);
        River full = Rivers::fullOfGauges;
        refusedOn(full, "none has room", y -> y.gauges(0, 0, 1, 1, 0, 3), 0);
        refusedOn(full, "BAD with no room", y -> y.gauges(0, 0, 1, 1, 0, 25), BAD);
        refusedOn(full, "-13 with no room", y -> y.gauges(0, 0, 1, 2, 0, 3), OTHER_SORT);
        refusedOn(full, "-11 with no room", y -> y.gauges(0, 0, 3, 2, 0, 3), NOTHING);
        refusedOn(full, "-12 with no room", y -> y.gauges(0, 0, 1, 1, 0, 4), OUTSIDE);
    }

    private void taken() {
        says(37, "A HOLD taken for one of KIND k (0 .. 5), or one under that one (also by others between): its n. BAD: k; "
            + "-11: no such HOLD; -13.");
        outside("k", 0, 5, (x, n) -> x.taken(0, n), BAD);
        outside("hold", 0, 5, (x, n) -> x.taken(n, 0), NOTHING);
        refusedOn(NEW, "no hold at all", x -> x.taken(0, 0), NOTHING);
        refusedOn(NEW, "BAD for k ahead of -11", x -> x.taken(0, 6), BAD);
        refused("BAD for k ahead of -11, below", x -> x.taken(6, -1), BAD);
        refused("BAD for k ahead of -13", x -> x.taken(0, 6), BAD);
        refused("-11 ahead of -13", x -> x.taken(6, 5), NOTHING);
        refused("-13", x -> x.taken(0, 5), OTHER_SORT);
        outsideOn(Rivers::fullOfHolds, "hold of sixteen", 0, 15, (x, n) -> x.taken(n, 0), NOTHING);
        due("the sixteenth", Rivers.fullOfHolds().taken(15, 0), 15);
        due("the first", Rivers.rich().taken(0, 0), 40);
        due("n 0", takenFor(RIGHT, HOLD, 0), 0);
        due("n 9999", takenFor(ANCIENT, HOLD, 9999), 9999);
        due("n 100 of a half", takenFor(HALF, HOLD, 100), 100);
    }

    private static int takenFor(int kind, int k, int n) {
        RiverCompact x = new RiverCompact();
        x.hold(kind, 0, 0, n, 0);
        return x.taken(0, k);
    }

    private void takenKinds() {
        says(37, "taken for one of KIND k (0 .. 5), or one under that one (also by others between)");
        // of each kind: those that it is, or is under
        boolean[][] is = {
            {true, false, false, false, false, false},
            {true, true, false, false, false, false},
            {true, false, true, false, false, false},
            {true, true, false, true, false, false},
            {true, true, false, false, true, false},
            {true, true, false, true, false, true}};
        for (int kind = 0; kind < 6; kind++) {
            for (int k = 0; k < 6; k++) {
                due("kind " + kind + " taken for " + k, takenFor(kind, k, 60), is[kind][k] ? 60 : OTHER_SORT);
            }
        }
    }
}
