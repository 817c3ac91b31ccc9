/** Promises 14 and 15: calls, whom they shut, what they help. */
final class CallCases extends Cases {
    CallCases(Check check) {
        super(check);
    }

    @Override
    void work() {
        call();
        callsFull();
        shutByRank();
        shutByReach();
        shutInMonths();
        helps();
        helpsBy();
    }

    private void call() {
        says(14, "A CALL: its number. BAD; FULL.");
        taken("the first hold", x -> x.call(0, 30), 2, x -> x.count(4), 3);
        taken("the last hold", x -> x.call(5, 30), 2, x -> x.takes(4, 30, 4), 0);
        outside("hold", 0, 5, (x, n) -> x.call(n, 30), BAD);
        refusedOn(NEW, "no hold at all", x -> x.call(0, 0), BAD);
        taken("month 0", x -> x.call(3, 0), 2, x -> x.takes(0, 0, 4), 0);
        taken("month 0 shuts", x -> x.call(1, 0), 2, x -> x.takes(0, 0, 4), 1);
        taken("month 95", x -> x.call(1, 95), 2, x -> x.takes(0, 95, 4), 1);
        outside("month", 0, 95, (x, n) -> x.call(1, n), BAD);
        refused("both wrong", x -> x.call(6, 96), BAD);
        taken("a refused one takes no number", x -> x.call(1, 96), BAD, x -> x.call(1, 95), 2);
        taken("told again it has a number more", x -> x.call(1, 5), 2, x -> x.count(4), 3);
        RiverCompact x = new RiverCompact();
        x.hold(HOLD, 0, 0, 0, 0);
        due("numbered from 0", x.call(0, 0), 0);
    }

    private void callsFull() {
        says(14, "CALLS (16 at most)");
        RiverCompact x = new RiverCompact();
        x.hold(HOLD, 0, 0, 9, 1);
        x.hold(HOLD, 0, 0, 9, 2);
        for (int i = 0; i < 15; i++) {
            x.call(0, i);
        }
        due("the last that has room", x.call(0, 15), 15);
        due("the first that has none", x.call(0, 16), FULL);
        due("how many", x.count(4), 16);
        due("the sixteenth shuts", x.takes(1, 15, 4), 1);
        due("the seventeenth does not", x.takes(1, 16, 4), 0);
        due("the sixteenth may help", x.helps(15), 0);
        due("there is no seventeenth", x.helps(16), BAD);
        River full = Rivers::fullOfCalls;
        refusedOn(full, "full", y -> y.call(1, 50), FULL);
        refusedOn(full, "BAD for a hold ahead of FULL", y -> y.call(6, 50), BAD);
        refusedOn(full, "BAD for a month ahead of FULL", y -> y.call(1, 96), BAD);
    }

    /** Whether a hold is shut, by a call of another one of rank 50 at reach 3. */
    private static int isShut(int kind, int reach, int since) {
        RiverCompact x = new RiverCompact();
        x.hold(HOLD, 0, 3, 9, 50);
        x.hold(kind, 0, reach, 9, since);
        x.call(0, 20);
        return x.takes(1, 20, 4);
    }

    private void shutByRank() {
        says(14, "SHUT are then all HOLDS of its REACH and those above it whose RANK is greater than its own.");
        for (int reach = 0; reach <= 3; reach++) {
            due("one less at reach " + reach, isShut(HOLD, reach, 49), 0);
            due("a like one at reach " + reach, isShut(HOLD, reach, 50), 0);
            due("one more at reach " + reach, isShut(HOLD, reach, 51), 1);
        }
        due("the greatest", isShut(DITCH, 0, 9999), 1);
        due("the least", isShut(ANCIENT, 0, 0), 0);
        due("a right like it", isShut(RIGHT, 2, 50), 0);
        due("a ditch like it", isShut(DITCH, 2, 49), 0);
        due("a ditch one more", isShut(DITCH, 2, 50), 1);
        due("a half of any time", isShut(HALF, 2, 9999), 0);
        due("a reserve like it", isShut(RESERVE, 2, 1050), 0);
        due("a reserve one more", isShut(RESERVE, 2, 1051), 1);
        due("an ancient like it", isShut(ANCIENT, 2, 2050), 0);
        due("an ancient one more", isShut(ANCIENT, 2, 2051), 1);
        RiverCompact x = new RiverCompact();
        x.hold(HOLD, 0, 3, 9, 50);
        x.call(0, 20);
        due("not itself", x.takes(0, 20, 4), 0);
        x.hold(HOLD, 0, 3, 9, 51);
        due("one that is told behind the call", x.takes(1, 20, 4), 1);
    }

    private void shutByReach() {
        says(14, "all HOLDS of its REACH and those above it");
        due("its own reach", isShut(HOLD, 3, 99), 1);
        due("the reach above", isShut(HOLD, 2, 99), 1);
        due("reach 0", isShut(HOLD, 0, 99), 1);
        due("the reach below", isShut(HOLD, 4, 99), 0);
        due("reach 6", isShut(HOLD, 6, 99), 0);
        due("by a call at reach 6, reach 0", shutByCallAt(6, 0), 1);
        due("by a call at reach 6, reach 6", shutByCallAt(6, 6), 1);
        due("by a call at reach 0, reach 0", shutByCallAt(0, 0), 1);
        due("by a call at reach 0, reach 1", shutByCallAt(0, 1), 0);
    }

    private static int shutByCallAt(int reach, int other) {
        RiverCompact x = new RiverCompact();
        x.hold(HOLD, 0, reach, 9, 1);
        x.hold(HOLD, 0, other, 9, 2);
        x.call(0, 0);
        return x.takes(1, 0, 4);
    }

    private void shutInMonths() {
        says(14, "a HOLD calls in a MONTH");
        int[] months = {0, 19, 21, 8, 32, 95};
        for (int month : months) {
            RiverCompact x = new RiverCompact();
            x.hold(HOLD, 0, 3, 9, 50);
            x.hold(HOLD, 0, 3, 9, 51);
            x.call(0, 20);
            due("not in month " + month, x.takes(1, month, 4), 0);
            due("it wants in month " + month, x.takes(1, month, 1), 9);
        }
        RiverCompact x = new RiverCompact();
        x.hold(HOLD, 0, 3, 9, 50);
        x.hold(HOLD, 0, 2, 9, 40);
        x.hold(HOLD, 0, 2, 9, 45);
        x.call(0, 20);
        x.call(1, 20);
        due("shut by the second of two", x.takes(2, 20, 4), 1);
        due("who calls is not shut by whom it comes ahead of", x.takes(1, 20, 4), 0);
        due("who called first is not shut from above", x.takes(0, 20, 4), 0);
    }

    private void helps() {
        says(15, "By how much more the HOLD that called got in that MONTH than it would without this CALL. BAD.");
        refusedOn(NEW, "no call at all", x -> x.helps(0), BAD);
        outside("call", 0, 1, (x, n) -> x.helps(n), BAD);
        outsideOn(Rivers::fullOfCalls, "call of sixteen", 0, 15, (x, n) -> x.helps(n), BAD);
        due("asking leaves all as it was", leavesAll(RICH, "helps(0)", x -> x.helps(0)), Rivers.rich().helps(0));
        due("asking the last, too", leavesAll(RICH, "helps(1)", x -> x.helps(1)), Rivers.rich().helps(1));
    }

    /** 100 come; a later one above asks for 70; who calls below asks for n. */
    private static RiverCompact upstream(int month, int n) {
        RiverCompact x = new RiverCompact();
        x.side(0, month % 12, 100);
        x.hold(HOLD, 0, 0, 70, 9);
        x.hold(HOLD, 0, 1, n, 5);
        x.call(1, month);
        return x;
    }

    private void helpsBy() {
        says(15, "got in that MONTH than it would without this CALL");
        due("it had enough", upstream(4, 30).helps(0), 0);
        due("one more", upstream(4, 31).helps(0), 1);
        due("all that the other one took", upstream(4, 100).helps(0), 70);
        due("no more than that", upstream(4, 101).helps(0), 70);
        due("of nothing asked", upstream(4, 0).helps(0), 0);
        due("in month 0", upstream(0, 60).helps(0), 30);
        due("in month 95", upstream(95, 60).helps(0), 30);
        RiverCompact x = upstream(4, 60);
        x.call(1, 4);
        due("told twice, the first helps nothing", x.helps(0), 0);
        due("nor the second", x.helps(1), 0);
        RiverCompact y = upstream(4, 60);
        y.call(1, 16);
        due("without this one alone", y.helps(0), 30);
        due("the last one by itself", y.helps(1), 30);
        RiverCompact z = upstream(4, 60);
        z.call(1, 3);
        due("where nothing is there", z.helps(1), 0);
        z.call(0, 4);
        due("who calls above shuts nobody below", z.helps(2), 0);
        RiverCompact u = upstream(4, 200);
        u.rule(0, Rivers.text(u, "may 1;cut 50;"));
        due("without it the other one's text is as it is", u.helps(0), 35);
        RiverCompact w = upstream(4, 100);
        w.lake(6, 9, 9, 0, 0);
        w.rule(0, Rivers.text(w, "may level < 10;cut level * 10 * (rank=9);"));
        due("without it the other one wants by levels", w.helps(0), 7);
        RiverCompact v = upstream(4, 60);
        v.hold(HOLD, 0, 2, 100, 4);
        v.call(2, 4);
        due("who called is shut itself by another call", v.helps(0), 0);
        due("without that one, the first call shuts all the same", v.helps(1), 60);
    }
}
