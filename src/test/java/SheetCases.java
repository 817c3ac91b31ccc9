/** Promises 33 to 35: sheets, their items, what is copied from one to another. */
final class SheetCases extends Cases {
    static final int BYTES = 0, SHORTS = 1, INTS = 2;
    private static final int[] ENDS = {MIN, -1, MAX};

    SheetCases(Check check) {
        super(check);
    }

    @Override
    void work() {
        sheet();
        sheetSizes();
        missing();
        allZero();
        cell();
        cellPlaces();
        cellNumbers();
        copy();
        copyOfMissing();
        copySorts();
        copyPlaces();
        asTheyWere();
    }

    /** What an item of a sheet is by a gauge, if it is one that a gauge can have. */
    static int item(RiverCompact x, int sheet, int sort, int i) {
        x.gauge(0, 0, 77777);
        x.gauges(0, 0, sheet, sort, i, 1);
        return x.read(0, 0);
    }

    /** A sheet of a sort with these numbers. */
    static RiverCompact row(int sort, int... numbers) {
        RiverCompact x = new RiverCompact();
        x.sheet(0, sort, numbers.length);
        for (int i = 0; i < numbers.length; i++) {
            x.cell(0, i, numbers[i]);
        }
        return x;
    }

    private void sheet() {
        says(33, "A SHEET becomes a row of n of a sort, all 0, or missing (sort -1: n does not matter): 1. "
            + "BAD: no such SHEET, sort; n above 40; -14.");
        taken("sheet 0", x -> x.sheet(0, 2, 4), 1, x -> x.cell(0, 3, 1), 1);
        taken("sheet 3", x -> x.sheet(3, 2, 4), 1, x -> x.cell(3, 3, 1), 1);
        outside("sheet", 0, 3, (x, n) -> x.sheet(n, 2, 4), BAD);
        taken("sort 0", x -> x.sheet(1, 0, 4), 1, x -> x.gauges(6, 50, 1, 0, 0, 4), 4);
        taken("sort 1", x -> x.sheet(0, 1, 4), 1, x -> x.gauges(6, 50, 0, 1, 0, 4), 4);
        taken("sort 2", x -> x.sheet(1, 2, 4), 1, x -> x.gauges(6, 50, 1, 2, 0, 4), 4);
        outside("sort", -1, 2, (x, n) -> x.sheet(1, n, 4), BAD);
        refused("all of it wrong", x -> x.sheet(4, 3, 41), BAD);
    }

    private void sheetSizes() {
        says(33, "n above 40; -14");
        for (int sort = 0; sort < 3; sort++) {
            int s = sort;
            taken("n 0 of sort " + s, x -> x.sheet(1, s, 0), 1, x -> x.cell(1, 0, 1), OUTSIDE);
            taken("n 1 of sort " + s, x -> x.sheet(1, s, 1), 1, x -> x.cell(1, 0, 1) + 10 * x.cell(1, 1, 1), 1 + 10 * OUTSIDE);
            taken("n 40 of sort " + s, x -> x.sheet(1, s, 40), 1, x -> x.cell(1, 39, 1) + 10 * x.cell(1, 40, 1),
                1 + 10 * OUTSIDE);
            refused("n 41 of sort " + s, x -> x.sheet(1, s, 41), BAD);
            refused("the greatest n of sort " + s, x -> x.sheet(1, s, MAX), BAD);
            refused("n -1 of sort " + s, x -> x.sheet(1, s, -1), BELOW_ZERO);
            refused("the least n of sort " + s, x -> x.sheet(1, s, MIN), BELOW_ZERO);
        }
        refused("BAD for a sheet ahead of -14", x -> x.sheet(4, 1, -1), BAD);
        refused("BAD for a sheet below 0 ahead of -14", x -> x.sheet(-1, 1, -1), BAD);
        refused("BAD for a sort ahead of -14", x -> x.sheet(1, 3, -1), BAD);
        refused("BAD for a sort below -1 ahead of -14", x -> x.sheet(1, -2, -1), BAD);
        refused("a missing one stays missing", x -> x.sheet(3, 1, -1), BELOW_ZERO);
    }

    private void missing() {
        says(33, "or missing (sort -1: n does not matter): 1.");
        int[] sizes = {0, 1, 40, 41, -1, MIN, MAX};
        for (int n : sizes) {
            taken("n " + n, x -> x.sheet(1, -1, n), 1, x -> x.cell(1, 0, 1), NOTHING);
        }
        taken("one that is missing", x -> x.sheet(3, -1, 5), 1, x -> x.cell(3, 0, 1), NOTHING);
        taken("another one stays", x -> x.sheet(1, -1, 5), 1, x -> x.cell(2, 2, 1), 1);
        refused("BAD for a sheet", x -> x.sheet(4, -1, 0), BAD);
        says(33, "missing (as all are at first)");
        for (int sheet = 0; sheet < 4; sheet++) {
            due("sheet " + sheet, new RiverCompact().cell(sheet, 0, 1), NOTHING);
        }
    }

    private void allZero() {
        says(33, "a row of n of a sort, all 0");
        for (int sort = 0; sort < 3; sort++) {
            RiverCompact x = row(sort, 5, 6, 7);
            due("it was 7, sort " + sort, item(x, 0, sort, 2), 7);
            x.sheet(0, sort, 3);
            due("it is 0, sort " + sort, item(x, 0, sort, 2), 0);
            due("so is the first, sort " + sort, item(x, 0, sort, 0), 0);
            RiverCompact y = row(sort, 5, 6, 7);
            y.sheet(0, sort, 1);
            y.sheet(0, sort, 3);
            due("shorter and longer again, sort " + sort, item(y, 0, sort, 2), 0);
            RiverCompact z = row(sort, 5, 6, 7);
            z.sheet(0, -1, 0);
            z.sheet(0, sort, 3);
            due("missing and there again, sort " + sort, item(z, 0, sort, 1), 0);
        }
    }

    private void cell() {
        says(34, "Item i of a SHEET becomes v (of bytes, shorts its lowest 8, 16 bits): 1. BAD: no such SHEET; -11; -12.");
        River river = Rivers::withLongSheets;
        outside("sheet", 0, 3, (x, n) -> x.cell(n, 0, 1), BAD);
        refused("-11 for a missing one", x -> x.cell(3, 0, 1), NOTHING);
        refused("BAD ahead of -12", x -> x.cell(4, -1, 1), BAD);
        for (int i : ENDS) {
            refused("-11 ahead of -12, item " + i, x -> x.cell(3, i, 1), NOTHING);
            refusedOn(NEW, "-11 ahead of -12 of a new one, item " + i, x -> x.cell(0, i, 1), NOTHING);
        }
        for (int sheet = 0; sheet < 3; sheet++) {
            int s = sheet;
            takenOn(river, "the first of 40, sheet " + s, x -> x.cell(s, 0, 9), 1, x -> item(x, s, s, 0), 9);
            takenOn(river, "the last of 40, sheet " + s, x -> x.cell(s, 39, 9), 1, x -> item(x, s, s, 39), 9);
            outsideOn(river, "item of 40, sheet " + s, 0, 39, (x, n) -> x.cell(s, n, 9), OUTSIDE);
            takenOn(river, "the next one stays, sheet " + s, x -> x.cell(s, 1, 9), 1, x -> item(x, s, s, 0), 71 + s);
            takenOn(river, "another sheet stays, sheet " + s, x -> x.cell((s + 1) % 3, 0, 9), 1, x -> item(x, s, s, 0), 71 + s);
        }
    }

    private void cellPlaces() {
        says(34, "-12");
        outside("item of 3", 0, 2, (x, n) -> x.cell(1, n, 9), OUTSIDE);
        refusedOn(Rivers::withLongSheets, "item 0 of none", x -> x.cell(3, 0, 9), OUTSIDE);
        refusedOn(Rivers::withLongSheets, "item -1 of none", x -> x.cell(3, -1, 9), OUTSIDE);
        taken("an item that a longer one had", x -> x.sheet(1, 1, 2), 1, x -> x.cell(1, 2, 9), OUTSIDE);
        taken("an item that only a longer one has", x -> x.sheet(1, 1, 4), 1, x -> x.cell(1, 3, 9), 1);
    }

    /** The number itself is seen where a gauge can have it; 77777 where it can't. */
    private void cellNumbers() {
        says(34, "(of bytes, shorts its lowest 8, 16 bits)");
        int none = 77777;
        int[] numbers = {127, 128, 255, 256, 261, -1, -128, -129, -251, -256, 32767, 65541, MIN, MAX, MIN + 5};
        int[] bytes = {127, none, none, 0, 5, none, none, 127, 5, 0, none, 5, 0, none, 5};
        for (int i = 0; i < numbers.length; i++) {
            due("byte " + numbers[i], item(row(BYTES, numbers[i]), 0, BYTES, 0), bytes[i]);
        }
        int[] more = {127, 128, 255, 256, 32767, 32768, 65535, 65536, 65541, -1, -32768, -32769, -65531, MIN, MAX, MIN + 5};
        int[] shorts = {127, 128, 255, 256, 32767, none, none, 0, 5, none, none, 32767, 5, 0, none, 5};
        for (int i = 0; i < more.length; i++) {
            due("short " + more[i], item(row(SHORTS, more[i]), 0, SHORTS, 0), shorts[i]);
        }
        int[] most = {0, 127, 128, 256, 32767, 32768, 65535, 65536, 99999, 100000, -1, MIN, MAX};
        int[] ints = {0, 127, 128, 256, 32767, 32768, 65535, 65536, 99999, none, none, none, none};
        for (int i = 0; i < most.length; i++) {
            due("int " + most[i], item(row(INTS, most[i]), 0, INTS, 0), ints[i]);
        }
    }

    private void copy() {
        says(35, "n numbers of a SHEET, from item i on, come to another one's item j on (as they were): n. BAD: no such SHEET; "
            + "-11; -13: they are of unlike sorts; -12 (also with n below 0).");
        outside("sheet", 0, 3, (x, n) -> x.copy(n, 0, 1, 0, 1), BAD);
        outside("other", 0, 3, (x, n) -> x.copy(1, 0, n, 0, 1), BAD);
        refused("both wrong", x -> x.copy(-1, 0, 4, 0, 1), BAD);
        refused("BAD for a sheet ahead of -11", x -> x.copy(4, 0, 3, 0, 1), BAD);
        refused("BAD for the other ahead of -11", x -> x.copy(3, 0, 4, 0, 1), BAD);
        refused("BAD for a sheet ahead of -12", x -> x.copy(4, 0, 1, 0, -1), BAD);
        refused("BAD for the other ahead of -12", x -> x.copy(1, 9, 4, 0, 1), BAD);
    }

    private void copyOfMissing() {
        says(35, "-11; -13: they are of unlike sorts");
        refused("from a missing one", x -> x.copy(3, 0, 1, 0, 1), NOTHING);
        refused("to a missing one", x -> x.copy(1, 0, 3, 0, 1), NOTHING);
        refused("both missing", x -> x.copy(3, 0, 3, 0, 1), NOTHING);
        refused("from a missing one, none", x -> x.copy(3, 0, 1, 0, 0), NOTHING);
        refused("to a missing one, none", x -> x.copy(1, 0, 3, 0, 0), NOTHING);
        refused("from a missing one, ahead of -12", x -> x.copy(3, -1, 1, 0, 1), NOTHING);
        refused("to a missing one, ahead of -12", x -> x.copy(1, 0, 3, 0, -1), NOTHING);
        refused("to a missing one, ahead of -12 of the sheet", x -> x.copy(1, 9, 3, 0, 1), NOTHING);
        for (int sheet = 0; sheet < 3; sheet++) {
            for (int other = 0; other < 3; other++) {
                int s = sheet;
                int o = other;
                if (s != o) {
                    refused("sort " + s + " to " + o, x -> x.copy(s, 0, o, 0, 1), OTHER_SORT);
                    refused("none of sort " + s + " to " + o, x -> x.copy(s, 0, o, 0, 0), OTHER_SORT);
                    refused("-13 ahead of -12 by n, " + s + " to " + o, x -> x.copy(s, 0, o, 0, -1), OTHER_SORT);
                    refused("-13 ahead of -12 by i, " + s + " to " + o, x -> x.copy(s, 9, o, 0, 1), OTHER_SORT);
                    refused("-13 ahead of -12 by j, " + s + " to " + o, x -> x.copy(s, 0, o, -1, 1), OTHER_SORT);
                }
            }
        }
    }

    private void copySorts() {
        says(35, "n numbers of a SHEET, from item i on, come to another one's item j on (as they were): n.");
        for (int sort = 0; sort < 3; sort++) {
            int s = sort;
            RiverCompact x = row(s, 5, 6, 7);
            x.sheet(1, s, 2);
            due("two of sort " + s, x.copy(0, 1, 1, 0, 2), 2);
            due("the first, sort " + s, item(x, 1, s, 0), 6);
            due("the second, sort " + s, item(x, 1, s, 1), 7);
            due("one more, sort " + s, x.copy(0, 0, 1, 1, 1), 1);
            due("it is there, sort " + s, item(x, 1, s, 1), 5);
            due("the one ahead stays, sort " + s, item(x, 1, s, 0), 6);
            due("what was copied stays, sort " + s, item(x, 0, s, 2), 7);
        }
        RiverCompact x = row(INTS, 99999, MIN + 5, -1);
        x.sheet(1, INTS, 3);
        due("ints", x.copy(0, 0, 1, 0, 3), 3);
        due("none is cut", item(x, 1, INTS, 0), 99999);
        due("nor made another", item(x, 1, INTS, 1), 77777);
        RiverCompact y = Rivers.withLongSheets();
        y.sheet(3, INTS, 40);
        due("all 40", y.copy(2, 0, 3, 0, 40), 40);
        due("the first of 40", item(y, 3, INTS, 0), 73);
        due("the last of 40", item(y, 3, INTS, 39), 83);
    }

    /** Two sheets of sort 1, of 5 and of 3, and one of none. */
    private static RiverCompact unlikeSizes() {
        RiverCompact x = Rivers.rich();
        x.sheet(0, SHORTS, 5);
        for (int i = 0; i < 5; i++) {
            x.cell(0, i, 60 + i);
        }
        x.sheet(2, SHORTS, 0);
        return x;
    }

    private void copyPlaces() {
        says(35, "-12 (also with n below 0)");
        River river = SheetCases::unlikeSizes;
        takenOn(river, "all that has room", x -> x.copy(0, 0, 1, 0, 3), 3, x -> item(x, 1, 1, 2), 62);
        refusedOn(river, "one more than has room", x -> x.copy(0, 0, 1, 0, 4), OUTSIDE);
        takenOn(river, "all that is there", x -> x.copy(1, 0, 0, 0, 3), 3, x -> item(x, 0, 1, 3), 63);
        refusedOn(river, "one more than is there", x -> x.copy(1, 0, 0, 0, 4), OUTSIDE);
        takenOn(river, "the last to the last", x -> x.copy(0, 4, 1, 2, 1), 1, x -> item(x, 1, 1, 2), 64);
        refusedOn(river, "from behind the last", x -> x.copy(0, 5, 1, 2, 1), OUTSIDE);
        refusedOn(river, "to behind the last", x -> x.copy(0, 4, 1, 3, 1), OUTSIDE);
        refusedOn(river, "the last two, one item off", x -> x.copy(0, 4, 1, 1, 2), OUTSIDE);
        refusedOn(river, "to the last two, one item off", x -> x.copy(0, 3, 1, 2, 2), OUTSIDE);
        outsideOn(river, "from", 0, 5, (x, n) -> x.copy(0, n, 1, 0, 0), OUTSIDE);
        outsideOn(river, "to", 0, 3, (x, n) -> x.copy(0, 0, 1, n, 0), OUTSIDE);
        outsideOn(river, "n", 0, 3, (x, n) -> x.copy(0, 0, 1, 0, n), OUTSIDE);
        refusedOn(river, "n -1 at the ends", x -> x.copy(0, 5, 1, 3, -1), OUTSIDE);
        refusedOn(river, "i and n beyond an int", x -> x.copy(0, 1, 1, 0, MAX), OUTSIDE);
        refusedOn(river, "j and n beyond an int", x -> x.copy(0, 0, 1, 1, MAX), OUTSIDE);
        refusedOn(river, "all beyond an int", x -> x.copy(0, MAX, 1, MAX, MAX), OUTSIDE);
        refusedOn(river, "i below and n above", x -> x.copy(0, -1, 1, 0, 2), OUTSIDE);
        says(35, "(as they were): n");
        due("none", leavesAll(river, "copy(0, 0, 1, 0, 0)", x -> x.copy(0, 0, 1, 0, 0)), 0);
        due("none at both ends", leavesAll(river, "copy(0, 5, 1, 3, 0)", x -> x.copy(0, 5, 1, 3, 0)), 0);
        due("none of none", leavesAll(river, "copy(2, 0, 2, 0, 0)", x -> x.copy(2, 0, 2, 0, 0)), 0);
        refusedOn(river, "one of none", x -> x.copy(2, 0, 1, 0, 1), OUTSIDE);
        refusedOn(river, "one to none", x -> x.copy(1, 0, 2, 0, 1), OUTSIDE);
    }

    /** The five items of a sheet as one number. */
    private static int five(RiverCompact x, int sort) {
        int digits = 0;
        for (int i = 0; i < 5; i++) {
            digits = 10 * digits + item(x, 0, sort, i);
        }
        return digits;
    }

    private void asTheyWere() {
        says(35, "(as they were)");
        for (int sort = 0; sort < 3; sort++) {
            RiverCompact x = row(sort, 1, 2, 3, 4, 5);
            due("one on, sort " + sort, x.copy(0, 0, 0, 1, 4), 4);
            due("as they were, sort " + sort, five(x, sort), 11234);
            RiverCompact y = row(sort, 1, 2, 3, 4, 5);
            due("one back, sort " + sort, y.copy(0, 1, 0, 0, 4), 4);
            due("as they were, back, sort " + sort, five(y, sort), 23455);
            RiverCompact z = row(sort, 1, 2, 3, 4, 5);
            due("to themselves, sort " + sort, z.copy(0, 0, 0, 0, 5), 5);
            due("as they were, there, sort " + sort, five(z, sort), 12345);
            due("two on, sort " + sort, z.copy(0, 0, 0, 2, 3), 3);
            due("as they were, two on, sort " + sort, five(z, sort), 12123);
            due("too far on, sort " + sort, z.copy(0, 0, 0, 3, 3), OUTSIDE);
            due("none came, sort " + sort, five(z, sort), 12123);
        }
    }
}
