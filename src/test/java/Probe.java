import java.util.ArrayList;
import java.util.List;

/** Something of all that can be asked of a river, in some 380 calls; asking changes it, so it is done with the river then. */
final class Probe {
    private final List<String> calls = new ArrayList<>();
    private final List<Long> answers = new ArrayList<>();

    Probe(RiverCompact x) {
        askCounts(x);
        askReaches(x);
        askHolds(x);
        askWhatWas(x);
        askSheets(x);
    }

    /** The first call that two rivers answer unlike, or nothing. */
    String unlike(Probe other) {
        for (int i = 0; i < calls.size(); i++) {
            if (!answers.get(i).equals(other.answers.get(i))) {
                return calls.get(i) + " answers " + other.answers.get(i) + ", not " + answers.get(i);
            }
        }
        return "";
    }

    private void is(String call, long answer) {
        calls.add(call);
        answers.add(answer);
    }

    private void askCounts(RiverCompact x) {
        for (int what = 0; what <= 10; what++) {
            is("count(" + what + ")", x.count(what));
        }
        for (int what = 0; what <= 7; what++) {
            is("sum(" + what + ")", x.sum(what));
        }
    }

    private void askReaches(RiverCompact x) {
        for (int reach = 0; reach < 7; reach++) {
            for (int month = 0; month < 96; month += 95) {
                for (int what = 0; what < 7; what += 2) {
                    is("told(" + reach + ", " + month + ", " + what + ")", x.told(reach, month, what));
                }
                is("read(" + reach + ", " + month + ")", x.read(reach, month));
            }
            for (int what = 0; what < 6; what += 5) {
                is("lakeTold(" + reach + ", 40, " + what + ")", x.lakeTold(reach, 40, what));
            }
        }
        is("sharp(95)", x.sharp(95));
    }

    private void askHolds(RiverCompact x) {
        for (int hold = 0; hold < 8; hold++) {
            for (int what = 0; what < 5; what++) {
                is("holdTold(" + hold + ", " + what + ")", x.holdTold(hold, what));
            }
            for (int month = 5; month < 96; month += 35) {
                is("takes(" + hold + ", " + month + ", 4)", x.takes(hold, month, 4));
                is("takes(" + hold + ", " + month + ", 1)", x.takes(hold, month, 1));
            }
            is("all(" + hold + ", 0, 96)", x.all(hold, 0, 96));
            is("says(" + hold + ", 5, 0)", x.says(hold, 5, 0));
            is("says(" + hold + ", 5, 1)", x.says(hold, 5, 1));
        }
        is("helps(0)", x.helps(0));
        is("helps(2)", x.helps(2));
    }

    private void askWhatWas(RiverCompact x) {
        for (int reach = 0; reach < 7; reach++) {
            is("side(" + reach + ", 5, 0)", x.side(reach, 5, 0));
            is("side(" + reach + ", 11, 0)", x.side(reach, 11, 0));
            is("salt(" + reach + ", 0)", x.salt(reach, 0));
            is("release(" + reach + ", 0)", x.release(reach, 0));
        }
        is("text()", x.text());
        is("count(5)", x.count(5));
    }

    /** How long a sheet is shows where a cell can't be any more; what is in it comes by way of gauges. */
    private void askSheets(RiverCompact x) {
        for (int sheet = 0; sheet < 4; sheet++) {
            for (int sort = 0; sort < 3; sort++) {
                is("gauges(6, 50, " + sheet + ", " + sort + ", 0, 3)", x.gauges(6, 50, sheet, sort, 0, 3));
            }
            for (int month = 50; month < 53; month++) {
                is("read(6, " + month + ")", x.read(6, month));
            }
            is("cell(" + sheet + ", 2, 0)", x.cell(sheet, 2, 0));
            is("cell(" + sheet + ", 3, 0)", x.cell(sheet, 3, 0));
            is("cell(" + sheet + ", 39, 0)", x.cell(sheet, 39, 0));
        }
    }
}
