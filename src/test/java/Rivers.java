/** Rivers for the cases: each is made anew, with few enough calls that everything may still be asked within 512. */
final class Rivers {
    static final int HOLD = 0, RIGHT = 1, HALF = 2, RESERVE = 3, DITCH = 4, ANCIENT = 5;

    /** What the rich river's tape holds. */
    static final String TAPE = "may 1";

    private Rivers() {
    }

    /** Brings words to the tape, eight bytes a call: what the last call answered. */
    static int feed(RiverCompact x, String words) {
        int size = 0;
        for (int at = 0; at < words.length(); at += 8) {
            int n = Math.min(8, words.length() - at);
            long bytes = 0;
            for (int i = 0; i < n; i++) {
                bytes |= (long) words.charAt(at + i) << (8 * i);
            }
            size = x.feed(n, bytes);
        }
        return size;
    }

    static int text(RiverCompact x, String words) {
        feed(x, words);
        return x.text();
    }

    /** A side of n in all months at one reach. */
    static void always(RiverCompact x, int reach, int n) {
        for (int ofYear = 0; ofYear < 12; ofYear++) {
            x.side(reach, ofYear, n);
        }
    }

    /** A hold that is in force in one month alone. */
    static int holdIn(RiverCompact x, int month, int kind, int reach, int n, int since) {
        int hold = x.hold(kind, 0, reach, n, since);
        x.force(hold, month, month + 1);
        return hold;
    }

    /** Something of every sort is told, so that a refused call that changes something is seen. */
    static RiverCompact rich() {
        RiverCompact x = new RiverCompact();
        for (int reach = 0; reach < 7; reach++) {
            x.side(reach, 0, 300 + reach);
            x.side(reach, 5, 500 + reach);
            x.side(reach, 11, 200 + reach);
            x.salt(reach, 20 + reach);
        }
        x.flood(0, 0, 50);
        x.flood(3, 40, -100);
        x.flood(6, 95, 70);
        x.gauge(0, 0, 800);
        x.gauge(3, 40, 300);
        x.gauge(6, 95, 90);
        x.lake(1, 2000, 900, 20, 60);
        x.lake(4, 600, 500, 10, 30);
        holdsAndTexts(x);
        for (int sheet = 0; sheet < 3; sheet++) {
            x.sheet(sheet, sheet, 3);
            for (int i = 0; i < 3; i++) {
                x.cell(sheet, i, 10 * sheet + 11 + i);
            }
        }
        return x;
    }

    private static void holdsAndTexts(RiverCompact x) {
        x.hold(HOLD, 0, 0, 40, 100);
        x.hold(RIGHT, 1, 2, 90, 50);
        x.hold(HALF, 2, 3, 30, 7);
        x.hold(RESERVE, 3, 5, 25, 1500);
        x.hold(DITCH, 0, 6, 50, 70);
        x.hold(ANCIENT, 1, 6, 33, 2500);
        x.force(0, 2, 90);
        x.call(1, 5);
        x.call(4, 40);
        text(x, "may month<11;cut 7;");
        x.rule(1, 1);
        feed(x, TAPE);
    }

    static RiverCompact fullOfFloods() {
        RiverCompact x = rich();
        for (int i = 3; i < 24; i++) {
            x.flood(2, 30, 1);
        }
        return x;
    }

    static RiverCompact fullOfGauges() {
        RiverCompact x = rich();
        for (int i = 3; i < 40; i++) {
            x.gauge(2, 30, i);
        }
        return x;
    }

    static RiverCompact fullOfHolds() {
        RiverCompact x = rich();
        for (int i = 6; i < 16; i++) {
            x.hold(HOLD, 0, 6, i, i);
        }
        return x;
    }

    static RiverCompact fullOfCalls() {
        RiverCompact x = rich();
        for (int i = 2; i < 16; i++) {
            x.call(0, i);
        }
        return x;
    }

    /** Six texts, and a tape that would be the seventh. */
    static RiverCompact fullOfTexts() {
        return fullOfTexts("may 1;cut 3;");
    }

    /** Six texts, and a tape with a fault at its first byte. */
    static RiverCompact fullOfTextsWithFault() {
        return fullOfTexts("?");
    }

    private static RiverCompact fullOfTexts(String tape) {
        RiverCompact x = rich();
        feed(x, ";cut 3;");
        for (int i = 2; i < 6; i++) {
            x.text();
            feed(x, i < 5 ? "may 1;cut 3;" : tape);
        }
        return x;
    }

    /** A tape of n bytes, the first of which are the rich river's. */
    static RiverCompact withTape(int n) {
        RiverCompact x = rich();
        StringBuilder words = new StringBuilder();
        while (TAPE.length() + words.length() < n) {
            words.append(' ');
        }
        feed(x, words.toString());
        return x;
    }

    static RiverCompact withFullTape() {
        return withTape(160);
    }

    static RiverCompact withTapeOf159() {
        return withTape(159);
    }

    static RiverCompact withTapeOf153() {
        return withTape(153);
    }

    static RiverCompact withFourLakes() {
        RiverCompact x = rich();
        x.lake(0, 500, 400, 9, 8);
        x.lake(6, 500, 400, 9, 8);
        return x;
    }

    /** A sheet of each sort, each with a place for 40 and a number at both its ends; sheet 3 has no place at all. */
    static RiverCompact withLongSheets() {
        RiverCompact x = rich();
        for (int sheet = 0; sheet < 3; sheet++) {
            x.sheet(sheet, sheet, 40);
            x.cell(sheet, 0, 71 + sheet);
            x.cell(sheet, 39, 81 + sheet);
        }
        x.sheet(3, 0, 0);
        return x;
    }
}
