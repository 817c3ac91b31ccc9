/** Of many promises: what is told behind a question counts at once, and no question changes another one's answer. */
final class AnewCases extends Cases {
    private static final String NO_NOW = "All is worked out from what is told by now, from MONTH 0 on: there is no now.";

    AnewCases(Check check) {
        super(check);
    }

    @Override
    void work() {
        told(2, "side", x -> x.side(0, 5, 9000));
        told(2, "side in month 0", x -> x.side(6, 0, 0));
        told(3, "salt", x -> x.salt(5, 90));
        told(4, "flood", x -> x.flood(0, 0, 1000));
        told(4, "flood in month 95", x -> x.flood(6, 95, 1000));
        told(5, "gauge", x -> x.gauge(3, 40, 5));
        told(7, "a lake more", x -> x.lake(5, 5000, 4000, 10, 100));
        told(7, "a lake in its place", x -> x.lake(1, 2000, 0, 0, 0));
        told(8, "release", x -> x.release(1, 900));
        told(9, "hold", x -> x.hold(RESERVE, 0, 0, 100, 0));
        told(10, "force", x -> x.force(3, 40, 41));
        told(14, "call", x -> x.call(1, 75));
        told(18, "rule", x -> x.rule(0, 1));
        told(36, "gauges", x -> x.gauges(3, 40, 1, 1, 0, 2));
        told(36, "gauges, one too many", x -> x.gauges(3, 40, 1, 1, 2, 2));
        inTurn(15, "helps", x -> x.helps(1));
        inTurn(26, "found", x -> x.found(0, 0, 30, 0));
        inTurn(27, "sold", x -> x.sold(5, 0));
        inTurn(28, "harm", x -> x.harm(5, 0));
        inTurn(29, "unlike", x -> x.unlike(0, 1, 1, 0));
        inTurn(30, "held", x -> x.held(0, 0));
        inTurn(30, "held, the steam", x -> x.held(0, 1));
        inTurn(31, "dry, which set", x -> x.dry(63, 40));
        inTurn(31, "dry, none", x -> x.dry(63, 0));
        toldBetween();
        noSheetsOfMonths();
        mostCalls();
    }

    /** Everything is asked that works the months out or tries what would be. */
    private static void askAll(RiverCompact x) {
        x.sum(2);
        x.helps(1);
        x.found(0, 0, 30, 0);
        x.sold(5, 0);
        x.harm(5, 0);
        x.unlike(0, 1, 1, 0);
        x.held(0, 0);
        x.dry(63, 0);
    }

    private void told(int promise, String name, Call call) {
        says(promise, NO_NOW);
        RiverCompact x = Rivers.rich();
        call.on(x);
        Probe ahead = new Probe(x);
        RiverCompact y = Rivers.rich();
        askAll(y);
        call.on(y);
        String unlike = ahead.unlike(new Probe(y));
        due(name + " behind all questions is as ahead of them: " + unlike, unlike.length(), 0);
        String changed = new Probe(Rivers.rich()).unlike(ahead);
        due(name + " changes an answer", changed.isEmpty() ? 0 : 1, 1);
    }

    private void inTurn(int promise, String name, Call call) {
        says(promise, NO_NOW);
        RiverCompact x = Rivers.rich();
        askAll(x);
        due(name + " behind all questions", call.on(x), call.on(Rivers.rich()));
        due(name + " asked again", call.on(x), call.on(Rivers.rich()));
        x.dry(63, 0);
        due(name + " behind dry()", call.on(x), call.on(Rivers.rich()));
        String unlike = new Probe(Rivers.rich()).unlike(new Probe(x));
        due(name + " behind all questions leaves all as it was: " + unlike, unlike.length(), 0);
    }

    /** 100 come in month 4, of which a hold at reach 0 takes 40 and one at reach 1 what is left. */
    private static RiverCompact two() {
        RiverCompact x = new RiverCompact();
        x.flood(0, 4, 100);
        x.hold(HOLD, 0, 0, 40, 9);
        x.hold(HOLD, 0, 1, 100, 5);
        return x;
    }

    private void toldBetween() {
        says(26, NO_NOW);
        RiverCompact x = two();
        due("found", x.found(0, 0, 61, 0), 3);
        x.flood(0, 4, 1);
        due("found again, with one more", x.found(0, 0, 61, 0), 2);
        says(27, NO_NOW);
        RiverCompact y = two();
        due("sold", y.sold(1, 0), 1);
        y.flood(0, 4, 40);
        due("sold again, with 40 more", y.sold(1, 0), 0);
        says(28, NO_NOW);
        RiverCompact z = two();
        due("harm", z.harm(1, 0), 40);
        z.flood(0, 4, 30);
        due("harm again, with 30 more", z.harm(1, 0), 10);
        says(15, NO_NOW);
        RiverCompact u = two();
        u.call(1, 4);
        due("helps", u.helps(0), 40);
        u.force(0, 5, 96);
        due("helps again, with the other one not in force", u.helps(0), 0);
        says(29, NO_NOW);
        RiverCompact v = two();
        Rivers.text(v, "may 1;cut 50;");
        due("unlike", v.unlike(0, 1, 0, 0), 30);
        v.force(1, 0, 4);
        due("unlike again, of one alone", v.unlike(0, 1, 0, 0), 20);
    }

    private void noSheetsOfMonths() {
        says(33, NO_NOW);
        RiverCompact x = two();
        long before = x.sum(2);
        x.sheet(0, 2, 3);
        x.cell(0, 0, 7);
        x.copy(0, 0, 0, 1, 2);
        Rivers.text(x, "may 0;cut 0;");
        due("neither a sheet nor a text of no state changes a month", x.sum(2), before);
    }

    private void mostCalls() {
        says(1, "An object is used for at most 512 calls after it has been made");
        RiverCompact x = two();
        for (int calls = 3; calls < 511; calls += 4) {
            x.side(0, 4, calls);
            x.dry(3, calls);
            x.text();
            x.gauges(0, 0, 0, 0, 0, 24);
        }
        due("the 512th call", x.takes(1, 4, 2), 100);
        RiverCompact y = new RiverCompact();
        int was = 0;
        for (int calls = 1; calls < 512; calls++) {
            was = y.side(6, 11, calls);
        }
        due("the 511th call", was, 510);
        due("the 512th call of the same", y.side(6, 11, 0), 511);
    }
}
