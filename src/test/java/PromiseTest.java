/** The promises of the document one by one, with answers worked out by hand. */
public final class PromiseTest {
    private static final long NO = -4611686018427387904L;
    private static final int MAX = Integer.MAX_VALUE;
    private static final int MIN = Integer.MIN_VALUE;
    private static final int HOLD = 0, RIGHT = 1, HALF = 2, RESERVE = 3, DITCH = 4, ANCIENT = 5;

    private final Check check = new Check("PromiseTest");

    public static void main(String[] args) {
        PromiseTest test = new PromiseTest();
        test.reaches();
        test.lakes();
        test.holds();
        test.calls();
        test.texts();
        test.months();
        test.promises();
        test.ifs();
        test.host();
        test.check.end();
    }

    private void reaches() {
        promise1();
        promise2();
        promise3();
        promise4();
        promise5();
        promise6();
    }

    private void lakes() {
        promise7();
        promise8();
    }

    private void holds() {
        promise9();
        promise10();
        promise11();
        promise12();
        wantsAndTurns();
        workedAnew();
        promise13();
    }

    private void calls() {
        promise14();
        promise15();
    }

    private void texts() {
        promise16();
        promise17();
        openOnes();
        promise18();
        promise19();
    }

    private void months() {
        promise20();
        promise21();
        promise22();
        promise23();
    }

    private void promises() {
        promise24();
        promise25();
    }

    private void ifs() {
        promise26();
        promise27();
        promise28();
        promise29();
        promise30();
        promise31();
        promise32();
    }

    private void host() {
        promise33();
        promise34();
        promise35();
        promise36();
        promise37();
    }

    private void due(String call, long got, long want) {
        check.due(call, got, want);
    }

    private static void feed(RiverCompact x, String words) {
        for (int i = 0; i < words.length(); i++) {
            x.feed(1, words.charAt(i));
        }
    }

    private static int text(RiverCompact x, String words) {
        feed(x, words);
        return x.text();
    }

    /** A side of n in all months at one reach. */
    private static void always(RiverCompact x, int reach, int n) {
        for (int y = 0; y < 12; y++) {
            x.side(reach, y, n);
        }
    }

    private void promise1() {
        check.part("promise 1");
        RiverCompact x = new RiverCompact();
        for (int what = 0; what <= 10; what++) {
            due("count " + what, x.count(what), what == 5 ? 1 : 0);
        }
        for (int what = 0; what <= 7; what++) {
            due("sum " + what, x.sum(what), 0);
        }
        for (int reach = 0; reach < 7; reach++) {
            due("told side", x.told(reach, 95, 0), 0);
            due("no lake", x.release(reach, 1), -5);
            due("no rate", x.salt(reach, 0), 0);
            due("no reading", x.read(reach, 0), 0);
        }
        due("no hold", x.holdTold(0, 0), -2);
        due("no sheet", x.cell(3, 0, 0), -11);
        x.side(0, 0, 5);
        due("another object", new RiverCompact().side(0, 0, 7), 0);
    }

    private void promise2() {
        check.part("promise 2");
        RiverCompact x = new RiverCompact();
        due("at first", x.side(3, 11, 9999), 0);
        due("what it was", x.side(3, 11, 0), 9999);
        due("what it was then", x.side(3, 11, 70), 0);
        due("reach -1", x.side(-1, 0, 0), -2);
        due("reach 7", x.side(7, 0, 0), -2);
        due("month -1", x.side(0, -1, 0), -2);
        due("month 12", x.side(0, 12, 0), -2);
        due("n -1", x.side(3, 11, -1), -2);
        due("n 10000", x.side(3, 11, 10000), -2);
        due("greatest", x.side(MAX, MAX, MAX), -2);
        due("least", x.side(MIN, MIN, MIN), -2);
        due("a refusal changes nothing", x.told(3, 11, 0), 70);
        due("the last year", x.told(3, 95, 0), 70);
        due("another month", x.told(3, 94, 0), 0);
        due("another reach", x.told(2, 11, 0), 0);
    }

    private void promise3() {
        check.part("promise 3");
        RiverCompact x = new RiverCompact();
        due("at first", x.salt(6, 99), 0);
        due("what it was", x.salt(6, 10), 99);
        due("rate -1", x.salt(6, -1), -2);
        due("rate 100", x.salt(6, 100), -2);
        due("reach -1", x.salt(-1, 1), -2);
        due("reach 7", x.salt(7, 1), -2);
        x.side(6, 0, 999);
        due("cut", x.told(6, 0, 5), 9);
        x.flood(6, 0, 1);
        due("of side with floods", x.told(6, 0, 5), 10);
        x.salt(6, 0);
        due("none", x.told(6, 0, 5), 0);
        x.salt(5, 99);
        due("another reach's", x.told(6, 0, 5), 0);
    }

    private void promise4() {
        check.part("promise 4");
        RiverCompact x = new RiverCompact();
        x.side(1, 2, 100);
        due("reach -1", x.flood(-1, 0, 0), -2);
        due("reach 7", x.flood(7, 0, 0), -2);
        due("month -1", x.flood(0, -1, 0), -2);
        due("month 96", x.flood(0, 96, 0), -2);
        due("n -10000", x.flood(0, 0, -10000), -2);
        due("n 10000", x.flood(0, 0, 10000), -2);
        due("least", x.flood(1, 2, -9999), 0);
        due("0 at least", x.told(1, 2, 0), 0);
        due("greatest", x.flood(1, 2, 9999), 1);
        due("both", x.told(1, 2, 0), 100);
        due("another year", x.told(1, 14, 0), 100);
        due("month 95", x.flood(1, 95, 3), 2);
        due("in month 95", x.told(1, 95, 0), 3);
        due("not in month 83", x.told(1, 83, 0), 0);
        due("another reach", x.told(0, 95, 0), 0);
        for (int i = 3; i < 24; i++) {
            due("number", x.flood(0, 0, 1), i);
        }
        due("full", x.flood(0, 0, 1), -4);
        due("bad ahead of full", x.flood(0, 96, 1), -2);
        due("21 of them", x.told(0, 0, 0), 21);
        due("how many", x.count(2), 24);
    }

    private void promise5() {
        check.part("promise 5");
        RiverCompact x = new RiverCompact();
        due("reach -1", x.gauge(-1, 0, 0), -2);
        due("reach 7", x.gauge(7, 0, 0), -2);
        due("month -1", x.gauge(0, -1, 0), -2);
        due("month 96", x.gauge(0, 96, 0), -2);
        due("n -1", x.gauge(0, 0, -1), -2);
        due("n 100000", x.gauge(0, 0, 100000), -2);
        due("greatest", x.gauge(0, 0, 99999), 0);
        due("it reads", x.read(0, 0), 99999);
        for (int i = 1; i < 39; i++) {
            due("number", x.gauge(0, 0, i), i);
        }
        due("told last", x.read(0, 0), 38);
        due("the last one", x.gauge(6, 95, 0), 39);
        due("full", x.gauge(6, 94, 1), -4);
        due("bad ahead of full", x.gauge(6, 94, -1), -2);
        due("left out", x.read(6, 94), 0);
        due("how many", x.count(3), 40);
    }

    private void promise6() {
        check.part("promise 6");
        RiverCompact x = new RiverCompact();
        x.gauge(1, 4, 300);
        x.gauge(4, 4, 0);
        due("none above", x.read(0, 4), 0);
        due("its own", x.read(1, 4), 300);
        due("of the reach above", x.read(2, 4), 300);
        due("two above", x.read(3, 4), 300);
        due("a gauge of 0", x.read(4, 4), 0);
        due("below that", x.read(6, 4), 0);
        due("month behind", x.read(1, 5), 0);
        due("the same month a year on", x.read(1, 16), 0);
        due("reach -1", x.read(-1, 0), -2);
        due("reach 7", x.read(7, 0), -2);
        due("month -1", x.read(0, -1), -2);
        due("month 96", x.read(0, 96), -2);
        x.gauge(2, 4, 11);
        due("told later", x.read(3, 4), 11);
        due("those below 4 stay", x.read(5, 4), 0);
    }

    private void promise7() {
        check.part("promise 7");
        RiverCompact x = new RiverCompact();
        due("reach -1", x.lake(-1, 9, 9, 9, 9), -2);
        due("reach 7", x.lake(7, 9, 9, 9, 9), -2);
        due("room -1", x.lake(0, -1, 0, 9, 9), -2);
        due("room 100000", x.lake(0, 100000, 9, 9, 9), -2);
        due("level -1", x.lake(0, 9, -1, 9, 9), -2);
        due("level above room", x.lake(0, 9, 10, 9, 9), -2);
        due("surface -1", x.lake(0, 9, 9, -1, 9), -2);
        due("surface 100", x.lake(0, 9, 9, 100, 9), -2);
        due("release -1", x.lake(0, 9, 9, 9, -1), -2);
        due("release 10000", x.lake(0, 9, 9, 9, 10000), -2);
        due("none came", x.count(1), 0);
        due("greatest", x.lake(6, 99999, 99999, 99, 9999), 1);
        due("steam of it", x.lakeTold(6, 0, 1), 9899);
        due("level behind", x.lakeTold(6, 1, 0), 99999 - 9899 - 9999);
        due("least", x.lake(0, 0, 0, 0, 0), 1);
        due("this now", x.lake(6, 10, 5, 0, 2), 0);
        due("its level", x.lakeTold(6, 0, 0), 5);
        due("its release", x.lakeTold(6, 0, 2), 2);
        due("its surface", x.lakeTold(6, 0, 1), 0);
        due("two", x.count(1), 2);
        due("it stays one", x.lake(0, 9, 9, 9, 9), 0);
    }

    private void promise8() {
        check.part("promise 8");
        RiverCompact x = new RiverCompact();
        due("no lake", x.release(0, 5), -5);
        due("reach 7 ahead", x.release(7, 5), -2);
        due("reach -1 ahead", x.release(-1, 5), -2);
        due("n -1 ahead", x.release(0, -1), -2);
        due("n 10000 ahead", x.release(0, 10000), -2);
        x.lake(0, 9999, 9999, 0, 70);
        due("what it was", x.release(0, 9999), 70);
        due("a refusal", x.release(0, 10000), -2);
        due("all goes out", x.lakeTold(0, 0, 2), 9999);
        due("what it was then", x.release(0, 0), 9999);
        due("none goes out", x.lakeTold(0, 0, 2), 0);
    }

    private void promise9() {
        check.part("promise 9");
        RiverCompact x = new RiverCompact();
        due("kind -1", x.hold(-1, 0, 0, 0, 0), -2);
        due("kind 6", x.hold(6, 0, 0, 0, 0), -2);
        due("state -1", x.hold(0, -1, 0, 0, 0), -2);
        due("state 4", x.hold(0, 4, 0, 0, 0), -2);
        due("reach -1", x.hold(0, 0, -1, 0, 0), -2);
        due("reach 7", x.hold(0, 0, 7, 0, 0), -2);
        due("n -1", x.hold(0, 0, 0, -1, 0), -2);
        due("n 10000", x.hold(0, 0, 0, 10000, 0), -2);
        due("since -1", x.hold(0, 0, 0, 0, -1), -2);
        due("since 10000", x.hold(0, 0, 0, 0, 10000), -2);
        due("half of 101", x.hold(HALF, 0, 0, 101, 0), -2);
        due("half of 100", x.hold(HALF, 3, 6, 100, 9999), 0);
        due("a right of 101", x.hold(RIGHT, 0, 0, 101, 0), 1);
        due("greatest", x.hold(ANCIENT, 3, 6, 9999, 9999), 2);
        due("in force in month 0", x.takes(2, 0, 1), 9999);
        due("in force in month 95", x.takes(2, 95, 1), 9999);
        for (int i = 3; i < 16; i++) {
            due("number", x.hold(HOLD, 0, 0, 0, 0), i);
        }
        due("full", x.hold(HOLD, 0, 0, 0, 0), -4);
        due("bad ahead of full", x.hold(HOLD, 0, 7, 0, 0), -2);
        due("how many", x.count(0), 16);
    }

    private void promise10() {
        check.part("promise 10");
        RiverCompact x = new RiverCompact();
        due("no hold", x.force(0, 0, 1), -2);
        always(x, 0, 500);
        x.hold(HOLD, 0, 0, 100, 0);
        due("from -1", x.force(0, -1, 1), -2);
        due("to 97", x.force(0, 0, 97), -2);
        due("from 97", x.force(0, 97, 97), -2);
        due("from behind to", x.force(0, 5, 4), -2);
        due("hold -1", x.force(-1, 0, 1), -2);
        due("hold 1", x.force(1, 0, 1), -2);
        due("refusals change nothing", x.all(0, 0, 96), 9600);
        due("how many", x.force(0, 3, 7), 4);
        due("ahead", x.takes(0, 2, 1), 0);
        due("the first", x.takes(0, 3, 1), 100);
        due("the last", x.takes(0, 6, 1), 100);
        due("behind", x.takes(0, 7, 1), 0);
        due("it asks all the same", x.takes(0, 7, 0), 100);
        due("all", x.all(0, 0, 96), 400);
        due("none", x.force(0, 96, 96), 0);
        due("none gets", x.all(0, 0, 96), 0);
        due("all again", x.force(0, 0, 96), 96);
        due("all gets", x.all(0, 0, 96), 9600);
    }

    private void promise11() {
        check.part("promise 11");
        RiverCompact x = new RiverCompact();
        int[] ranks = {700, 700, 0, -300, 701, -1300};
        int[] backs = {0, 40, 20, 50, 20, 50};
        for (int kind = 0; kind < 6; kind++) {
            x.hold(kind, kind % 4, kind + 1, 10 + kind, 700);
            due("kind", x.holdTold(kind, 0), kind);
            due("state", x.holdTold(kind, 1), kind % 4);
            due("reach", x.holdTold(kind, 2), kind + 1);
            due("n", x.holdTold(kind, 3), 10 + kind);
            due("since", x.holdTold(kind, 4), 700);
            due("rank of " + kind, x.holdTold(kind, 5), ranks[kind]);
            due("back of " + kind, x.holdTold(kind, 6), backs[kind]);
        }
        due("what -1", x.holdTold(0, -1), -2);
        due("what 7", x.holdTold(0, 7), -2);
        due("hold -1", x.holdTold(-1, 0), -2);
        due("hold 6", x.holdTold(6, 0), -2);
    }

    private void promise12() {
        check.part("promise 12");
        RiverCompact x = new RiverCompact();
        for (int kind = 0; kind < 6; kind++) {
            x.hold(kind, 0, kind, kind == HALF ? 33 : 105, 0);
        }
        x.gauge(1, 2, 1000);
        x.gauge(2, 3, 205);
        int[] months = {0, 2, 3, 5, 6, 7, 8, 9, 11, 12 + 6, 84 + 8, 95};
        int[] right = {0, 0, 105, 105, 105, 105, 105, 0, 0, 105, 105, 0};
        int[] half = {0, 330, 67, 0, 0, 0, 0, 0, 0, 0, 0, 0};
        int[] ditch = {0, 0, 115, 115, 115, 115, 115, 0, 0, 115, 115, 0};
        int[] ancient = {105, 105, 105, 105, 157, 157, 105, 105, 105, 157, 105, 105};
        for (int i = 0; i < months.length; i++) {
            String when = " in " + months[i];
            due("hold asks" + when, x.takes(0, months[i], 0), 105);
            due("right asks" + when, x.takes(1, months[i], 0), right[i]);
            due("half asks" + when, x.takes(2, months[i], 0), half[i]);
            due("reserve asks" + when, x.takes(3, months[i], 0), 105);
            due("ditch asks" + when, x.takes(4, months[i], 0), ditch[i]);
            due("ancient asks" + when, x.takes(5, months[i], 0), ancient[i]);
        }
        due("hold -1", x.takes(-1, 0, 0), -2);
        due("hold 6", x.takes(6, 0, 0), -2);
        due("month -1", x.takes(0, -1, 0), -2);
        due("month 96", x.takes(0, 96, 0), -2);
        due("what -1", x.takes(0, 0, -1), -2);
        due("what 5", x.takes(0, 0, 5), -2);
        due("it wants", x.takes(0, 0, 1), 105);
        due("nothing is there", x.takes(0, 0, 2), 0);
        due("nothing comes back", x.takes(0, 0, 3), 0);
        due("not shut", x.takes(0, 0, 4), 0);
    }

    /** The least rank first, of like ones the least number; each as far as the water goes. */
    private void wantsAndTurns() {
        check.part("promise 12, turns");
        RiverCompact x = new RiverCompact();
        x.side(2, 4, 1000);
        x.salt(2, 40);
        x.hold(HOLD, 0, 2, 300, 50);
        x.hold(RIGHT, 0, 2, 333, 50);
        x.hold(DITCH, 0, 2, 100, 48);
        x.hold(RESERVE, 0, 2, 201, 900);
        x.hold(HOLD, 0, 2, 150, 51);
        due("reserve first", x.takes(3, 4, 2), 201);
        due("its back", x.takes(3, 4, 3), 100);
        due("ditch then", x.takes(2, 4, 2), 110);
        due("its back", x.takes(2, 4, 3), 22);
        due("hold then", x.takes(0, 4, 2), 300);
        due("no back", x.takes(0, 4, 3), 0);
        due("right then", x.takes(1, 4, 2), 333);
        due("its back", x.takes(1, 4, 3), 133);
        due("the rest", x.takes(4, 4, 2), 56);
        due("it wants more", x.takes(4, 4, 1), 150);
        due("returns", x.told(3, 5, 1), 100 + 22 + 133);
        // 40 of salt: 8 of 40 go with 201, 4 of 32 with 110, 12 of 28 with 300, 13 of 16 with 333, 3 with 56
        due("their salt", x.told(3, 5, 5), 8 + 4 + 4 + 2 + 12 + 6 + 13 + 6 + 3 + 1);
        due("nothing left", x.told(2, 4, 4), 0);
        due("nor salt", x.told(2, 4, 6), 0);
        x.hold(HOLD, 0, 2, 50, 40);
        due("a later one may go ahead", x.takes(5, 4, 2), 50);
        due("the last gets less", x.takes(4, 4, 2), 6);
    }

    /** Each thing that is told changes what was answered before. */
    private void workedAnew() {
        check.part("worked anew");
        RiverCompact x = new RiverCompact();
        x.hold(HALF, 0, 1, 50, 0);
        due("nothing yet", x.takes(0, 17, 2), 0);
        x.side(1, 5, 60);
        due("no gauge", x.takes(0, 17, 1), 0);
        x.gauge(0, 17, 80);
        due("a gauge", x.takes(0, 17, 2), 40);
        x.flood(1, 17, -30);
        due("a flood", x.takes(0, 17, 2), 30);
        x.sheet(0, 0, 1);
        x.cell(0, 0, 44);
        x.gauges(1, 17, 0, 0, 0, 1);
        due("gauges", x.takes(0, 17, 2), 22);
        due("no salt", x.told(1, 17, 5), 0);
        x.salt(1, 99);
        due("salt", x.told(1, 17, 5), 2);
        x.lake(0, 100, 50, 0, 10);
        due("a lake", x.told(1, 4, 2), 10);
        x.release(0, 20);
        due("its release", x.told(1, 2, 2), 10);
        x.hold(HOLD, 0, 0, 5, 0);
        due("a hold", x.told(1, 2, 2), 5);
        x.force(1, 3, 9);
        due("its months", x.told(1, 2, 2), 10);
        due("it gets", x.takes(1, 5, 2), 0);
        due("half gets", x.takes(0, 17, 2), 22);
        x.hold(HOLD, 0, 2, 5, 0);
        x.hold(HOLD, 3, 1, 9, 7);
        due("what is left", x.takes(3, 17, 2), 8);
        x.call(2, 17);
        due("a call", x.takes(3, 17, 2), 0);
        due("not of the half", x.takes(0, 17, 2), 22);
        text(x, "may 0;cut 0;");
        x.rule(0, 1);
        due("a rule", x.takes(0, 17, 2), 0);
    }

    private void promise13() {
        check.part("promise 13");
        RiverCompact x = new RiverCompact();
        due("no hold", x.all(0, 0, 1), NO);
        always(x, 1, 100);
        x.flood(1, 95, -30);
        x.hold(HOLD, 0, 1, 80, 0);
        due("all", x.all(0, 0, 96), 95 * 80 + 70);
        due("last", x.all(0, 95, 96), 70);
        due("none", x.all(0, 50, 50), 0);
        due("none at the end", x.all(0, 96, 96), 0);
        due("ahead of 95", x.all(0, 93, 95), 160);
        due("from -1", x.all(0, -1, 5), NO);
        due("to 97", x.all(0, 0, 97), NO);
        due("from 97", x.all(0, 97, 97), NO);
        due("from behind to", x.all(0, 6, 5), NO);
        due("hold 1", x.all(1, 0, 1), NO);
        due("hold -1", x.all(-1, 0, 1), NO);
    }

    private void promise14() {
        check.part("promise 14");
        RiverCompact x = new RiverCompact();
        due("no hold", x.call(0, 0), -2);
        x.hold(HOLD, 0, 3, 10, 50);
        x.hold(HOLD, 0, 3, 10, 51);
        x.hold(HOLD, 0, 3, 10, 50);
        x.hold(HOLD, 0, 0, 10, 60);
        x.hold(HOLD, 0, 4, 10, 60);
        x.hold(RESERVE, 0, 2, 10, 1050);
        x.hold(RESERVE, 0, 2, 10, 1051);
        due("month -1", x.call(0, -1), -2);
        due("month 96", x.call(0, 96), -2);
        due("hold -1", x.call(-1, 0), -2);
        due("hold 7", x.call(7, 0), -2);
        due("first", x.call(0, 5), 0);
        due("itself", x.takes(0, 5, 4), 0);
        due("later at its reach", x.takes(1, 5, 4), 1);
        due("a shut one wants nothing", x.takes(1, 5, 1), 0);
        due("it asks", x.takes(1, 5, 0), 10);
        due("like rank", x.takes(2, 5, 4), 0);
        due("later above", x.takes(3, 5, 4), 1);
        due("later below", x.takes(4, 5, 4), 0);
        due("rank of a reserve, like", x.takes(5, 5, 4), 0);
        due("rank of a reserve, greater", x.takes(6, 5, 4), 1);
        due("month ahead", x.takes(1, 4, 4), 0);
        due("month behind", x.takes(1, 6, 4), 0);
        due("by one that is shut", x.call(1, 5), 1);
        due("second year", x.call(4, 95), 2);
        due("like rank", x.takes(3, 95, 4), 0);
        due("not a lesser rank", x.takes(1, 95, 4), 0);
        for (int i = 3; i < 16; i++) {
            due("number", x.call(0, 0), i);
        }
        due("full", x.call(0, 0), -4);
        due("bad ahead of full", x.call(0, 96), -2);
        due("how many", x.count(4), 16);
    }

    private void promise15() {
        check.part("promise 15");
        RiverCompact x = new RiverCompact();
        due("no call", x.helps(0), -2);
        x.side(0, 4, 100);
        x.hold(HOLD, 0, 0, 70, 9);
        x.hold(HOLD, 0, 1, 60, 5);
        x.hold(HOLD, 0, 2, 60, 7);
        x.call(1, 4);
        due("30 more", x.helps(0), 30);
        x.call(2, 4);
        due("the other shuts it, too", x.helps(0), 0);
        due("nor does the second help", x.helps(1), 0);
        due("left for it", x.takes(2, 4, 2), 40);
        x.call(1, 5);
        due("nothing there", x.helps(2), 0);
        x.call(2, 16);
        due("the one above takes 60 then", x.takes(1, 16, 2), 60);
        due("40 of the 100 are left", x.helps(3), 40);
        due("call -1", x.helps(-1), -2);
        due("call 4", x.helps(4), -2);
        due("the calls stay", x.takes(0, 4, 4), 1);
        due("and their number", x.count(4), 4);
    }

    private void promise16() {
        check.part("promise 16");
        RiverCompact x = new RiverCompact();
        due("n 0", x.feed(0, 1), -2);
        due("n 9", x.feed(9, 1), -2);
        due("n -1", x.feed(-1, 1), -2);
        due("n least", x.feed(MIN, 1), -2);
        due("nothing came", x.count(6), 0);
        // "may " and bytes above that are not asked for
        due("the lowest first", x.feed(4, 0x7f7f7f7f2079616dL), 4);
        due("one", x.feed(1, '1'), 5);
        due("eight", x.feed(8, 0x3b30747563203b20L), 13);
        // " ; cut0;" : 20 3b 20 63 75 74 30 3b
        due("a text", x.text(), 1);
        due("empty then", x.count(6), 0);
        for (int i = 1; i <= 19; i++) {
            due("bytes", x.feed(8, 0), 8 * i);
        }
        due("seven", x.feed(7, 0), 159);
        due("two too many", x.feed(2, 0), -4);
        due("bad ahead of full", x.feed(0, 0), -2);
        due("as it was", x.count(6), 159);
        due("the last", x.feed(1, 0), 160);
        due("full", x.feed(1, 0), -4);
        due("a byte that begins none", x.text(), -100);
        due("room again", x.feed(8, -1), 8);
        due("a byte above 127", x.text(), -100);
    }

    private void fault(String words, int place) {
        RiverCompact x = new RiverCompact();
        due("text of '" + words + "'", text(x, words), -100 - place);
        due("the tape behind it", x.count(6), 0);
        due("no text came", x.count(5), 1);
    }

    private void stands(String words) {
        due("text of '" + words + "'", text(new RiverCompact(), words), 1);
    }

    private void promise17() {
        check.part("promise 17");
        String[] good = {"may 1;cut 0;", " \n may\n1 ; cut 0 ; \n", "may1;cut9999;", "may 1and 2or 3;cut 0;",
            "may month year;cut 0;".replace(" year", "+year"), "may rank*level-read+state;cut-1;",
            "may not not 1<2;cut 1=2;", "may 0001;cut(1);", "may 1<2 and 3=4 or not 5;cut 1--1;",
            "may 1 < 2 - - 3 ; cut - ( 2 ) * - 3 ;"};
        for (String words : good) {
            stands(words);
        }
        fault("", 0);
        fault("   ", 3);
        fault("may", 3);
        fault("may ", 4);
        fault("may 1", 5);
        fault("may 1;", 6);
        fault("may 1;cut 0", 11);
        fault("may 1;cut 0 ", 12);
        fault("cut 0;may 1;", 0);
        fault("mayor 1;cut 0;", 0);
        fault("May 1;cut 0;", 0);
        fault("day 1;cut 0;", 0);
        fault("may 1;put 0;", 6);
        fault("may dead;cut 0;", 4);
        fault("may bank;cut 0;", 4);
        fault("may rant;cut 0;", 4);
        fault("may lever;cut 0;", 4);
        fault("may 1 ant 1;cut 0;", 6);
        fault("may 12345;cut 0;", 4);
        fault("may 00001;cut 0;", 4);
        fault("may 1 2;cut 0;", 6);
        fault("may;cut 0;", 3);
        fault("may 1;may 1;", 6);
        fault("may 1;cut 0;;", 12);
        fault("may 1;cut 0;may", 12);
        fault("may 1;cut 0;\t", 12);
        fault("may 1;cut 0; 12345", 13);
        fault("may levels;cut 0;", 4);
        fault("may mont;cut 0;", 4);
        fault("may or;cut 0;", 4);
        fault("may 1 or;cut 0;", 8);
        fault("may 1 or or 1;cut 0;", 9);
        fault("may 1 and and 1;cut 0;", 10);
        fault("may 1 not 1;cut 0;", 6);
        fault("may 1<2<3;cut 0;", 7);
        fault("may 1<2=3;cut 0;", 7);
        fault("may 1< not 1;cut 0;", 7);
        fault("may 1+not 1;cut 0;", 6);
        fault("may - not 1;cut 0;", 6);
        fault("may not;cut 0;", 7);
        fault("may 1 + ;cut 0;", 8);
        fault("may 1 +* 2;cut 0;", 7);
        fault("may + 1;cut 0;", 4);
        fault("may ();cut 0;", 5);
        fault("may (1;cut 0;", 6);
        fault("may 1);cut 0;", 5);
        fault("may (1;", 6);
        fault("may (1", 6);
        fault("may 1,2;cut 0;", 5);
        fault("may 1>2;cut 0;", 5);
        fault("may 1\r;cut 0;", 5);
        fault("may 1/2;cut 0;", 5);
        fault("may 1:2;cut 0;", 5);
        fault("may `;cut 0;", 4);
        fault("may {;cut 0;", 4);
        fault("may 1 cut 0;", 6);
        fault("may 1;0;", 6);
        fault("may 1month;;", 5);
        tapesAnew();
        textsFull();
    }

    /** What stood on the tape before is gone. */
    private void tapesAnew() {
        RiverCompact x = new RiverCompact();
        due("too long", text(x, "may 1;cut 00000;"), -110);
        due("ends at a number", text(x, "may 1;cut 0"), -111);
        due("no name", text(x, "may monthxx;"), -104);
        due("ends at a name", text(x, "may month"), -109);
        due("ends at a key", text(x, "may"), -103);
        for (int i = 0; i < 20; i++) {
            x.feed(8, 0x6161616161616161L);
        }
        due("a word of 160", x.text(), -100);
        for (int i = 0; i < 20; i++) {
            x.feed(8, 0x3131313131313131L);
        }
        due("a number of 160", x.text(), -100);
        StringBuilder words = new StringBuilder("may 1");
        while (words.length() < 150) {
            words.append("+1");
        }
        words.setLength(150);
        due("a long one", text(x, words + "1;cut -77;"), 1);
        x.hold(HOLD, 0, 0, 1, 0);
        x.rule(0, 1);
        due("its may", x.says(0, 0, 0), 74);
        due("its cut", x.says(0, 0, 1), -77);
    }

    private void textsFull() {
        RiverCompact x = new RiverCompact();
        for (int i = 1; i < 6; i++) {
            due("number", text(x, "may 1;cut 0;"), i);
            due("a fault takes none", i < 5 ? text(x, "may") : -103, -103);
        }
        due("full ahead of an empty tape", x.text(), -4);
        due("full ahead of a fault", text(x, "x"), -4);
        due("the tape stays", x.count(6), 1);
        due("how many", x.count(5), 6);
    }

    /** Five of ( not - may be open, a sixth is the fault. */
    private void openOnes() {
        check.part("promise 17, open ones");
        stands("may (((((1)))));cut -----1;");
        stands("may not not not not not 1;cut 0;");
        stands("may -(not(-1));cut not(-(-1));");
        fault("may ((((((1))))));cut 0;", 9);
        fault("may ------1;cut 0;", 9);
        fault("may not not not not not not 1;cut 0;", 24);
        fault("may -(not(-(1)));cut 0;", 11);
        fault("may -(not(-1));cut not(-(-(1)));", 26);
        fault("may -(not(-1));cut not(-(--1));", 26);
        fault("may -(not(-1));cut not(-(-not 1));", 26);
        fault("may (((((-1)))));cut 0;", 9);
        fault("may (((((not 1)))));cut 0;", 9);
        fault("may not(not(-(1)));cut 0;", 13);
        stands("may (((((1-1)))));cut 0;");
        stands("may (((((1)))))+(((((1))))) and not not not not not 1 and not 1;cut -----1 - -----1;");
        stands("may not ((((1))));cut ((((-1)-1)));");
        // the not of a comparison ends with it, the minus with its ONE
        stands("may not not not not not 1<2 and not 1;cut 0;");
        fault("may not not not not not 1<-2;cut 0;", 26);
        stands("may ----(1)+----(1);cut 0;");
        fault("may ((((( ( 1;cut 0;", 10);
    }

    private void promise18() {
        check.part("promise 18");
        RiverCompact x = new RiverCompact();
        always(x, 0, 100);
        x.hold(HOLD, 2, 0, 50, 0);
        x.hold(HOLD, 3, 0, 50, 0);
        due("no text 1", x.rule(0, 1), -2);
        text(x, "may 0;cut 0;");
        text(x, "may 1;cut 10;");
        due("state -1", x.rule(-1, 0), -2);
        due("state 4", x.rule(4, 0), -2);
        due("text -1", x.rule(0, -1), -2);
        due("text 3", x.rule(0, 3), -2);
        due("which was", x.rule(2, 1), 0);
        due("may not", x.takes(0, 0, 1), 0);
        due("another state", x.takes(1, 0, 1), 50);
        due("which was then", x.rule(2, 2), 1);
        due("less a tenth", x.takes(0, 0, 1), 45);
        due("of state 2", x.count(9), 2);
        due("text 0 again", x.rule(2, 0), 2);
        due("all", x.takes(0, 0, 1), 50);
    }

    private long worth(String words, int month) {
        RiverCompact x = new RiverCompact();
        x.lake(1, 5000, 300, 0, 100);
        x.lake(4, 5000, 70, 0, 0);
        x.gauge(1, month, 123);
        x.hold(DITCH, 3, 2, 40, 55);
        due("text of " + words, text(x, "may 1;cut " + words + ";"), 1);
        x.rule(3, 1);
        return x.says(0, month, 1);
    }

    private void promise19() {
        check.part("promise 19");
        due("month", worth("month", 29), 5);
        due("year", worth("year", 29), 2);
        due("year at the end", worth("year", 95), 7);
        due("rank", worth("rank", 0), 56);
        due("level", worth("level", 0), 370);
        due("level a month on", worth("level", 1), 370);
        due("read", worth("read", 7), 123);
        due("state", worth("state", 7), 3);
        due("or", worth("0 or 7", 0), 1);
        due("or of none", worth("0 or 0", 0), 0);
        due("and", worth("5 and 7", 0), 1);
        due("and of one", worth("5 and 0", 0), 0);
        due("and of 1", worth("1 and 6", 0), 1);
        due("and of 1 behind", worth("6 and 1", 0), 1);
        due("none and one", worth("0 and 6", 0), 0);
        due("or of the first", worth("6 or 0", 0), 1);
        due("or of 1", worth("1 or 0", 0), 1);
        due("not", worth("not 7", 0), 0);
        due("not 0", worth("not 0", 0), 1);
        due("not not", worth("not not 9", 0), 1);
        due("less", worth("2 < 3", 0), 1);
        due("not less", worth("3 < 3", 0), 0);
        due("like", worth("3 = 3", 0), 1);
        due("unlike", worth("3 = 4", 0), 0);
        due("less below 0", worth("-3 < 2", 0), 1);
        due("sums from the left", worth("10 - 3 - 2", 0), 5);
        due("terms first", worth("10 - 3 * 2", 0), 4);
        due("minus of a one", worth("-2*3+1", 0), -5);
        due("brackets", worth("(10 - 3) * 2", 0), 14);
        due("and ahead of or", worth("1 or 1 and 0", 0), 1);
        due("brackets of or", worth("(1 or 1) and 0", 0), 0);
        due("not of a comparison", worth("not 1 = 2", 0), 1);
        due("not is of its own", worth("not 0 and 0", 0), 0);
        due("a comparison of sums", worth("1 + 1 = 2 + 0", 0), 1);
        due("a bracket's value", worth("(2 < 3) + 1", 0), 2);
        due("no or, no 1", worth("(7)", 0), 7);
        due("wrapping", worth("9999*9999*9999*9999", 0), 9999 * 9999 * 9999 * 9999);
        due("wrapping minus", worth("9999*9999*43-9999*9999*70", 0), 9999 * 9999 * 43 - 9999 * 9999 * 70);
        RiverCompact x = new RiverCompact();
        due("no hold", x.says(0, 0, 0), NO);
        x.hold(HOLD, 0, 0, 10, 0);
        due("text 0: may", x.says(0, 95, 0), 1);
        due("text 0: cut", x.says(0, 95, 1), 0);
        due("month -1", x.says(0, -1, 0), NO);
        due("month 96", x.says(0, 96, 0), NO);
        due("part -1", x.says(0, 0, -1), NO);
        due("part 2", x.says(0, 0, 2), NO);
        due("hold -1", x.says(-1, 0, 0), NO);
        cutsAndLevels(x);
    }

    /** A cut beyond 0 .. 100 is the bound; levels are those as the month begins. */
    private void cutsAndLevels(RiverCompact x) {
        text(x, "may 0-5;cut 101;");
        text(x, "may month;cut -7;");
        text(x, "may 1;cut 33;");
        x.rule(0, 1);
        due("cut to 100", x.takes(0, 5, 1), 0);
        due("as it says", x.says(0, 5, 1), 101);
        due("any may but 0", x.says(0, 5, 0), -5);
        x.rule(0, 2);
        due("cut to 0", x.takes(0, 5, 1), 10);
        due("may 0", x.takes(0, 12, 1), 0);
        x.rule(0, 3);
        due("3 of 10 are cut", x.takes(0, 5, 1), 7);
        x.hold(HOLD, 0, 0, 1000, 0);
        due("330 of 1000", x.takes(1, 5, 1), 670);
        x.rule(0, 1);
        due("not more than all", x.takes(1, 5, 1), 0);
        x.rule(0, 2);
        due("not more than it asks", x.takes(1, 5, 1), 1000);
        lakesAndNames();
        RiverCompact y = new RiverCompact();
        y.lake(3, 1000, 1000, 0, 100);
        y.lake(5, 5000, 0, 0, 0);
        y.hold(HOLD, 1, 0, 100, 0);
        y.hold(HOLD, 1, 4, 100, 0);
        text(y, "may level = 1000 ; cut level - 950 ;");
        y.rule(1, 1);
        due("50 may go", y.takes(1, 0, 1), 50);
        due("so much goes", y.takes(1, 0, 2), 50);
        due("level a month on", y.says(1, 1, 1), 0);
        due("and then may not", y.takes(1, 1, 1), 0);
        due("nor above the lakes", y.takes(0, 1, 1), 0);
        due("when half is there", y.lakeTold(3, 5, 0), 500);
    }

    private void lakesAndNames() {
        RiverCompact x = new RiverCompact();
        x.lake(0, 100, 70, 0, 0);
        x.lake(6, 100, 5, 0, 0);
        x.hold(HOLD, 0, 0, 1, 50);
        x.hold(HOLD, 1, 0, 1, 60);
        text(x, "may level;cut rank + state;");
        x.rule(0, 1);
        x.rule(1, 1);
        due("of the first and the last reach", x.says(0, 0, 0), 75);
        due("of one hold", x.says(0, 40, 1), 50);
        due("of another", x.says(1, 0, 1), 61);
        due("of the one again", x.says(0, 0, 1), 50);
        x.lake(3, 9, 2, 0, 0);
        due("a lake more", x.says(0, 95, 0), 77);
    }

    private static RiverCompact twoReaches() {
        RiverCompact x = new RiverCompact();
        x.side(0, 0, 1000);
        x.salt(0, 50);
        x.side(1, 0, 201);
        x.salt(1, 30);
        x.hold(RESERVE, 0, 0, 300, 1);
        x.hold(HOLD, 0, 1, 400, 5);
        return x;
    }

    private void promise20() {
        check.part("promise 20");
        RiverCompact x = twoReaches();
        int[][] month0 = {{1000, 0, 1000, 1000, 700, 50, 35}, {201, 0, 901, 901, 501, 41, 23},
            {0, 0, 501, 501, 501, 23, 23}};
        // a month later 150 come back with 15 + 6 of salt; the hold takes all of it
        int[][] month1 = {{0, 0, 0, 0, 0, 0, 0}, {0, 150, 150, 150, 0, 21, 0}, {0, 0, 0, 0, 0, 18 + 8, 26}};
        for (int reach = 0; reach < 3; reach++) {
            for (int what = 0; what < 7; what++) {
                due("reach " + reach + " in month 0, " + what, x.told(reach, 0, what), month0[reach][what]);
                due("reach " + reach + " in month 1, " + what, x.told(reach, 1, what), month1[reach][what]);
            }
        }
        due("nothing in month 2", x.told(1, 2, 2), 0);
        due("salt in month 2", x.told(2, 2, 5), 21 + 3);
        due("a year on", x.told(1, 12, 4), 501);
        due("reach -1", x.told(-1, 0, 0), -2);
        due("reach 7", x.told(7, 0, 0), -2);
        due("month -1", x.told(0, -1, 0), -2);
        due("month 96", x.told(0, 96, 0), -2);
        due("what -1", x.told(0, 0, -1), -2);
        due("what 7", x.told(0, 0, 7), -2);
        x.lake(1, 9999, 0, 0, 100);
        due("with a lake: comes", x.told(1, 0, 2), 901);
        due("with a lake: water", x.told(1, 0, 3), 100);
        due("with a lake: on", x.told(1, 0, 4), 0);
        due("with a lake: salt of comes", x.told(1, 0, 5), 41);
        due("told anew", x.side(0, 0, 0), 1000);
        due("worked anew", x.told(1, 0, 2), 201);
    }

    private void promise21() {
        check.part("promise 21");
        RiverCompact x = new RiverCompact();
        due("no lake", x.lakeTold(0, 0, 0), -5);
        due("bad ahead", x.lakeTold(0, 0, 6), -2);
        x.lake(0, 1000, 800, 50, 300);
        x.side(0, 0, 900);
        x.salt(0, 20);
        // 800 less 40, and 900: 1660 with 18 of salt; 300 go, and 360 that have no room
        int[][] rows = {{800, 40, 660, 8, 5280, 0}, {1000, 50, 300, 10, 3000, 11}, {650, 32, 300, 6, 1800, 8},
            {318, 15, 300, 3, 900, 5}, {3, 0, 3, 0, 0, 1}, {0, 0, 0, 0, 0, 0}};
        for (int month = 0; month < rows.length; month++) {
            for (int what = 0; what < 6; what++) {
                due("month " + month + ", " + what, x.lakeTold(0, month, what), rows[month][what]);
            }
        }
        due("salt of out", x.told(0, 0, 6), 7);
        due("salt of out then", x.told(0, 1, 6), 3);
        due("reach -1", x.lakeTold(-1, 0, 0), -2);
        due("reach 7", x.lakeTold(7, 0, 0), -2);
        due("month -1", x.lakeTold(0, -1, 0), -2);
        due("month 96", x.lakeTold(0, 96, 0), -2);
        due("what -1", x.lakeTold(0, 0, -1), -2);
        due("no lake there", x.lakeTold(1, 0, 0), -5);
        due("a year on", x.lakeTold(0, 12, 0), 0);
        due("its last month", x.lakeTold(0, 95, 0), 0);
        saltWithoutWater();
    }

    /** Salt that a hold takes comes back though no water does, and stays in a lake that is empty. */
    private void saltWithoutWater() {
        RiverCompact x = new RiverCompact();
        x.side(0, 0, 1000);
        x.salt(0, 99);
        x.hold(HOLD, 0, 0, 9999, 0);
        x.lake(1, 100, 0, 0, 10);
        due("nothing comes", x.told(1, 1, 2), 0);
        due("but salt", x.told(1, 1, 5), 99 + 20);
        due("none goes on", x.told(1, 1, 6), 0);
        due("it stays", x.lakeTold(1, 2, 5), 119);
    }

    private void promise22() {
        check.part("promise 22");
        RiverCompact x = new RiverCompact();
        x.side(6, 0, 1001);
        x.salt(6, 99);
        due("sharp", x.sharp(0), 98);
        due("no water", x.sharp(1), 0);
        due("month -1", x.sharp(-1), -2);
        due("month 96", x.sharp(96), -2);
        due("a year on", x.sharp(84), 98);
        x.side(6, 2, 900);
        x.salt(5, 99);
        x.side(5, 1, 9999);
        x.hold(HOLD, 0, 5, 9999, 0);
        x.side(6, 2, 1);
        // 989 of salt taken, and 199: 1188 with 1 of water
        due("salt alone came", x.told(6, 2, 6), 1188);
        due("1000000 at most", x.sharp(2), 1000000);
        x.side(6, 2, 2);
        due("less than that", x.sharp(2), 594000);
        x.side(6, 2, 0);
        due("salt without water", x.sharp(2), 0);
    }

    private void promise23() {
        check.part("promise 23");
        RiverCompact x = twoReaches();
        due("on of reach 6", x.sum(0), 8 * 501);
        due("sides", x.sum(1), 8 * 1201);
        due("holds get", x.sum(2), 8 * (300 + 400 + 150));
        due("no steam", x.sum(3), 0);
        due("returns", x.sum(4), 8 * 150);
        due("nothing lost", x.sum(5), 0);
        due("none in month 95", x.sum(6), 0);
        due("no power", x.sum(7), 0);
        due("what -1", x.sum(-1), NO);
        due("what 8", x.sum(8), NO);
        x.side(6, 11, 100);
        x.side(5, 11, 100);
        x.hold(RESERVE, 0, 6, 60, 1);
        x.hold(RESERVE, 0, 5, 40, 1);
        x.hold(RESERVE, 0, 4, 10, 1);
        x.lake(3, 9999, 1000, 10, 0);
        // the lake keeps all but what has no room; so few holds below it get anything
        due("lost", x.sum(5), 8 * 30 + 10 * 7);
        due("of month 95", x.sum(6), 20);
        due("no power without a release", x.sum(7), 0);
        long on = x.sum(0);
        long kept = x.lakeTold(3, 95, 0) - x.lakeTold(3, 95, 1) + x.told(3, 95, 2) - x.lakeTold(3, 95, 2);
        long lostWater = x.sum(2) - x.sum(4) - x.sum(6) - x.sum(5);
        due("nothing is lost but where it goes", on + kept + x.sum(3) + lostWater + x.sum(5) + x.sum(6), x.sum(1) + 1000);
        x.release(3, 7);
        due("power", x.sum(7) > 0 ? 1 : 0, 1);
        RiverCompact y = new RiverCompact();
        y.lake(2, 5000, 1000, 99, 500);
        due("steam of two months", y.sum(3), 99 + 39);
        due("power of two months", y.sum(7), 10 * 500 + 4 * 401 - 4 * 39);
    }

    private void promise24() {
        check.part("promise 24");
        RiverCompact x = new RiverCompact();
        always(x, 2, 100);
        x.side(2, 3, 40);
        due("one month", x.owed(2, 3, 100, 1), 60);
        due("kept", x.owed(2, 4, 100, 1), 0);
        due("more than kept", x.owed(2, 4, 10, 1), 0);
        due("three months", x.owed(4, 5, 300, 3), 60);
        due("the first that has them", x.owed(6, 2, 301, 3), 1);
        due("too early", x.owed(6, 1, 301, 3), 0);
        due("60 months", x.owed(6, 59, 9999999, 60), 9999999 - 5700);
        due("ahead of 60", x.owed(6, 58, 9999999, 60), 0);
        due("above", x.owed(1, 95, 7, 1), 7);
        due("reach -1", x.owed(-1, 0, 0, 1), NO);
        due("reach 7", x.owed(7, 0, 0, 1), NO);
        due("month -1", x.owed(0, -1, 0, 1), NO);
        due("month 96", x.owed(0, 96, 0, 1), NO);
        due("p -1", x.owed(0, 0, -1, 1), NO);
        due("p 10000000", x.owed(0, 0, 10000000, 1), NO);
        due("w 0", x.owed(0, 0, 0, 0), NO);
        due("w 61", x.owed(0, 0, 0, 61), NO);
    }

    private void promise25() {
        check.part("promise 25");
        RiverCompact x = new RiverCompact();
        always(x, 2, 100);
        x.flood(2, 50, -10);
        x.flood(2, 95, -20);
        due("none", x.breaks(2, 90 * 2 + 10, 2), 95);
        due("at 50", x.breaks(2, 191, 2), 50);
        due("at the last", x.breaks(6, 81, 1), 95);
        due("never", x.breaks(6, 80, 1), -1);
        due("at once", x.breaks(0, 1, 1), 0);
        due("as early as can be", x.breaks(6, 9999999, 60), 59);
        due("reach -1", x.breaks(-1, 0, 1), -2);
        due("reach 7", x.breaks(7, 0, 1), -2);
        due("p -1", x.breaks(0, -1, 1), -2);
        due("p 10000000", x.breaks(0, 10000000, 1), -2);
        due("w 0", x.breaks(0, 0, 0), -2);
        due("w 61", x.breaks(0, 0, 61), -2);
    }

    private void promise26() {
        check.part("promise 26");
        RiverCompact x = new RiverCompact();
        always(x, 1, 100);
        x.hold(HOLD, 0, 1, 40, 10);
        x.hold(HOLD, 0, 2, 60, 20);
        x.hold(HOLD, 1, 3, 10, 30);
        due("enough is there", x.found(0, 4, 50, 0), 0);
        due("from both below", x.found(0, 0, 50, 0), 0);
        due("rank ahead", x.found(0, 1, 50, 1000), 2);
        due("rank behind the first", x.found(0, 1, 50, 1010), 2);
        due("all that is there", x.found(0, 1, 9999, 1009), 3);
        due("behind it by number", x.found(0, 1, 9999, 1010), 2);
        due("of nothing", x.found(0, 1, 0, 0), 0);
        due("state -1", x.found(-1, 1, 1, 0), -2);
        due("reach 7", x.found(0, 7, 1, 0), -2);
        due("n -1", x.found(0, 0, -1, 0), -2);
        due("n 10000", x.found(0, 0, 10000, 0), -2);
        due("since -1", x.found(0, 0, 1, -1), -2);
        due("since 10000", x.found(0, 0, 1, 10000), -2);
        due("it is not there", x.count(0), 3);
        due("what was told stays", x.all(1, 0, 96), 5760);
        text(x, "may 0;cut 0;");
        x.rule(2, 1);
        due("its state's text", x.found(2, 1, 9999, 0), 0);
        x.hold(HOLD, 0, 6, 1, 0);
        x.call(0, 7);
        due("a call shuts it", x.found(0, 1, 9999, 1011), 2);
        RiverCompact y = new RiverCompact();
        y.flood(0, 95, 10);
        for (int i = 0; i < 15; i++) {
            y.hold(HOLD, 0, 0, i == 14 ? 10 : 0, 9);
        }
        due("the sixteenth, in month 95", y.found(0, 0, 1, 0), 1 << 14);
        due("again", y.found(0, 0, 1, 0), 1 << 14);
        due("full at once", y.hold(HOLD, 0, 0, 1, 9), 15);
        due("full then", y.found(0, 0, 1, 0), -4);
        for (int i = 4; i < 16; i++) {
            x.hold(HOLD, 0, 6, 1, 0);
        }
        due("full", x.found(0, 1, 1, 0), -4);
        due("bad ahead of full", x.found(0, 7, 1, 0), -2);
    }

    private static RiverCompact three() {
        RiverCompact x = new RiverCompact();
        always(x, 0, 100);
        x.hold(HOLD, 0, 0, 50, 10);
        x.hold(HOLD, 0, 1, 40, 20);
        x.hold(HOLD, 0, 2, 30, 30);
        return x;
    }

    private void promise27() {
        check.part("promise 27");
        RiverCompact x = three();
        due("the last goes to the first", x.sold(2, 0), 2);
        due("and to the second", x.sold(2, 1), 0);
        due("to the end", x.sold(0, 6), 0);
        due("to its own", x.sold(1, 1), 0);
        due("hold -1", x.sold(-1, 0), -2);
        due("hold 3", x.sold(3, 0), -2);
        due("reach -1", x.sold(0, -1), -2);
        due("reach 7", x.sold(0, 7), -2);
        due("it stays", x.holdTold(2, 2), 2);
        due("what it gets stays", x.takes(2, 0, 2), 10);
        x.gauge(2, 4, 200);
        x.hold(HALF, 0, 5, 50, 0);
        due("a half reads elsewhere", x.sold(3, 2), 4);
        due("alone others", x.sold(3, 0), 0);
        x.call(2, 5);
        due("its calls are its new reach's", x.sold(2, 0), 2);
    }

    private void promise28() {
        check.part("promise 28");
        RiverCompact x = three();
        due("harm", x.harm(2, 0), 96 * 20);
        due("none", x.harm(2, 1), 0);
        due("others get more", x.harm(0, 6), 0);
        due("its own reach", x.harm(0, 0), 0);
        due("hold -1", x.harm(-1, 0), NO);
        due("hold 3", x.harm(3, 0), NO);
        due("reach -1", x.harm(0, -1), NO);
        due("reach 7", x.harm(0, 7), NO);
        due("it stays", x.holdTold(2, 2), 2);
        // one gets less, another as much more: nothing together
        RiverCompact y = new RiverCompact();
        always(y, 0, 10);
        always(y, 1, 10);
        y.hold(HOLD, 0, 0, 10, 1);
        y.hold(HOLD, 0, 0, 10, 2);
        y.hold(HOLD, 0, 1, 10, 3);
        due("one less, one more", y.sold(0, 1), 4);
        due("nothing together", y.harm(0, 1), 0);
        RiverCompact z = new RiverCompact();
        z.flood(0, 95, 10);
        z.hold(HOLD, 0, 0, 10, 2);
        z.hold(HOLD, 0, 1, 10, 1);
        due("in month 95 alone", z.harm(1, 0), 10);
        due("at once asked", z.sold(1, 0), 1);
    }

    private void promise29() {
        check.part("promise 29");
        RiverCompact x = new RiverCompact();
        always(x, 0, 100);
        x.flood(0, 13, -100);
        x.hold(HOLD, 1, 0, 60, 0);
        x.hold(HOLD, 2, 0, 60, 1);
        text(x, "may 1;cut 50;");
        text(x, "may year = 0 or state = 1;cut 0;");
        due("first less second", x.unlike(0, 1, 1, 0), 12 * 30);
        due("second less first", x.unlike(1, 0, 1, 0), -12 * 30);
        due("that of all states", x.unlike(0, 1, 2, 0), 12 * 10);
        due("the second year", x.unlike(0, 1, 1, 1), 11 * 30);
        due("no such holds", x.unlike(0, 1, 3, 0), 0);
        due("year 0", x.unlike(0, 2, 2, 0), 0);
        due("year 7", x.unlike(0, 2, 2, 7), 12 * 40);
        due("like", x.unlike(1, 1, 1, 0), 0);
        due("text -1", x.unlike(-1, 0, 0, 0), NO);
        due("text 3", x.unlike(3, 0, 0, 0), NO);
        due("second -1", x.unlike(0, -1, 0, 0), NO);
        due("second 3", x.unlike(0, 3, 0, 0), NO);
        due("state -1", x.unlike(0, 1, -1, 0), NO);
        due("state 4", x.unlike(0, 1, 4, 0), NO);
        due("year -1", x.unlike(0, 1, 0, -1), NO);
        due("year 8", x.unlike(0, 1, 0, 8), NO);
        due("texts stay", x.count(8), 0);
        due("what is told stays", x.takes(0, 0, 2), 60);
        for (int i = 2; i < 16; i++) {
            x.hold(HOLD, i < 15 ? 0 : 3, 0, i < 15 ? 0 : 10, 0);
        }
        due("of the sixteenth", x.unlike(0, 1, 3, 0), 12 * 5);
        x.call(0, 40);
        due("sixteen and a call", x.takes(15, 40, 4), 0);
        due("it shuts the second", x.takes(1, 40, 4), 1);
    }

    private void promise30() {
        check.part("promise 30");
        RiverCompact x = new RiverCompact();
        due("without lakes", x.held(0, 0), 0);
        due("their steam", x.held(0, 1), 0);
        due("no power without lakes", x.held(1, 0), -5);
        due("power -1", x.held(-1, 0), NO);
        due("power 2000000001", x.held(2000000001, 0), NO);
        due("what -1", x.held(0, -1), NO);
        due("what 2", x.held(0, 2), NO);
        // 0: steams on; 101/2 = 50; 101; 202: gone in five months
        x.lake(3, 1000, 1000, 10, 101);
        due("twice is best", x.held(0, 0), 3);
        due("1000, 788, 579, 372, 167", x.held(0, 1), 10 + 7 + 5 + 3 + 1);
        due("power of that", x.held(202 * (10 + 7 + 5 + 3) + 166, 0), 3);
        due("more than that", x.held(202 * (10 + 7 + 5 + 3) + 167, 0) == 3 ? 1 : 0, 0);
        due("more than all", x.held(2000000000, 1), -5);
        due("release stays", x.release(3, 101), 101);
        due("its own power", x.lakeTold(3, 0, 4), 1010);
        RiverCompact y = new RiverCompact();
        y.lake(5, 1000, 900, 0, 3);
        y.lake(1, 1000, 900, 9, 1);
        due("what goes out of 1 steams no more", y.held(0, 0), 3 * 4);
        y.lake(1, 1000, 900, 0, 1);
        y.lake(5, 1000, 900, 9, 3);
        due("nothing out of 1, which would steam in 5", y.held(0, 0), 3);
        y.release(5, 0);
        due("of like ones the least", y.held(0, 0), 0);
        y.release(5, 1);
        due("half of 1 is 0", y.held(0, 0), 3);
        heldInTheLastMonth();
        y.lake(6, 0, 0, 0, 5);
        due("three", y.held(0, 0) >= 0 ? 1 : 0, 1);
        y.lake(0, 0, 0, 0, 5);
        due("four", y.held(0, 0), -6);
        due("bad ahead of four", y.held(0, 2), NO);
        due("four and too much power", y.held(2000000000, 0), -6);
    }

    private void heldInTheLastMonth() {
        RiverCompact x = new RiverCompact();
        x.flood(3, 94, 5000);
        x.lake(3, 99999, 0, 1, 50);
        // 5000, 4975, 4950 or 4900 as month 95 begins: 5 or 4 of steam, a head of 50 or 49
        due("of like ones the least", x.held(0, 0), 1);
        due("its steam", x.held(0, 1), 4);
        due("25 through 49", x.held(25 * 49, 0), 1);
        due("50 through 49", x.held(25 * 49 + 1, 0), 2);
        due("100 through 49", x.held(50 * 49 + 1, 0), 3);
        due("no more", x.held(100 * 49 + 1, 0), -5);
        RiverCompact y = new RiverCompact();
        y.lake(0, 9000, 1000, 90, 20);
        y.lake(6, 9000, 1000, 90, 30);
        y.dry(0, 0);
        due("the first and the last reach", y.held(0, 0), 3 * 4 + 3);
        y.lake(6, 9000, 1000, 0, 30);
        due("only the first steams", y.held(0, 0), 3 * 4);
    }

    private void promise31() {
        check.part("promise 31");
        RiverCompact x = new RiverCompact();
        due("no holds", x.dry(0, 0), 0);
        due("no such bit", x.dry(1, 0), -2);
        x.side(5, 4, 1000);
        x.salt(5, 50);
        x.side(6, 5, 100);
        x.hold(RIGHT, 0, 5, 100, 1);
        x.hold(RIGHT, 0, 5, 300, 2);
        x.hold(RIGHT, 0, 5, 300, 3);
        // 700 get 35 of salt and 14 more, of which 280 with 49 come to 100
        due("as it is", x.sharp(5), (5 + 2 + 15 + 6 + 15 + 6) * 1000 / 380);
        due("a bound above that", x.dry(7, 129), 0);
        due("the bound itself", x.dry(7, 128), 0);
        due("the least that does", x.dry(7, 127), 1);
        due("one is not enough: of like ones the least bits", x.dry(6, 127), 2);
        due("dry(7, 120)", x.dry(7, 120), 2);
        due("two of them", x.dry(7, 100), 3);
        due("the dearest two", x.dry(7, 50), 6);
        due("none does", x.dry(7, 49), -1);
        due("none of one", x.dry(1, 50), -1);
        due("bits -1", x.dry(-1, 50), -2);
        due("bits 8", x.dry(8, 50), -2);
        due("bits least", x.dry(MIN, 50), -2);
        due("bound -1", x.dry(7, -1), -2);
        due("bound 100000", x.dry(7, 100000), -2);
        due("greatest bound", x.dry(7, 99999), 0);
        due("what is told stays", x.takes(0, 4, 2), 100);
        x.hold(RIGHT, 0, 5, 150, 4);
        due("all of them", x.dry(15, 50), 14);
        whatIsLeftDryGetsNothing();
        for (int i = 4; i < 16; i++) {
            x.hold(HOLD, 0, 0, 0, 0);
        }
        // 550 are left dry, by the least bits of two such sets: 220 come with 21
        due("six", x.dry(0x3f, 100), 11);
        due("seven", x.dry(0x7f, 100), -2);
        due("the last ones", x.dry(0xe00b, 100), 11);
        due("all bits", x.dry(0xffff, 100), -2);
        due("bits 65536", x.dry(0x10000, 100), -2);
    }

    private void whatIsLeftDryGetsNothing() {
        RiverCompact x = new RiverCompact();
        x.side(5, 4, 50);
        x.salt(5, 99);
        x.hold(RIGHT, 0, 5, 20, 0);
        // 4 of salt in 50; were 1 taken, 4 in 49
        due("80 of the bound", x.dry(1, 80), 1);
        due("79 is too low", x.dry(1, 79), -1);
        due("the others are not", x.sharp(4), 100);
        RiverCompact y = new RiverCompact();
        y.side(5, 11, 1000);
        y.salt(5, 50);
        y.side(6, 0, 100);
        y.hold(RESERVE, 0, 5, 300, 0);
        y.hold(RESERVE, 0, 5, 300, 0);
        y.force(1, 0, 95);
        due("the one that gets nothing in month 95", y.dry(3, 90), 2);
        y.force(1, 0, 96);
        due("of like ones the least", y.dry(3, 90), 1);
        y.hold(RESERVE, 0, 5, 200, 0);
        due("the cheapest, though the last", y.dry(7, 105), 4);
        RiverCompact first = new RiverCompact();
        first.side(5, 0, 1000);
        first.salt(5, 50);
        first.side(6, 1, 100);
        first.hold(RESERVE, 0, 5, 300, 0);
        first.hold(RESERVE, 0, 5, 300, 0);
        first.force(1, 1, 96);
        due("the one that gets nothing in month 0", first.dry(3, 90), 2);
        RiverCompact z = new RiverCompact();
        z.flood(5, 94, 1000);
        z.salt(5, 50);
        z.hold(RESERVE, 0, 5, 300, 10);
        due("salt in month 95", z.dry(0, 100), -1);
        due("none then", z.dry(1, 100), 1);
        z.salt(6, 60);
        z.flood(6, 0, 1000);
        due("salt in month 0", z.dry(1, 59), -1);
        due("as much as may be", z.dry(1, 60), 1);
        due("it is told as ever", z.found(0, 5, 0, 0), 0);
        due("it may get less", z.found(0, 5, 800, 0), 1);
        due("and what it gets", z.harm(0, 6), 0);
    }

    private void promise32() {
        check.part("promise 32");
        RiverCompact x = new RiverCompact();
        x.hold(HOLD, 0, 0, 1, 0);
        for (int i = 0; i < 2; i++) {
            x.lake(i, 1, 1, 1, 1);
        }
        for (int i = 0; i < 3; i++) {
            x.flood(i, 1, 1);
        }
        for (int i = 0; i < 4; i++) {
            x.gauge(i, 1, 1);
        }
        for (int i = 0; i < 5; i++) {
            x.call(0, i);
        }
        for (int i = 0; i < 4; i++) {
            text(x, "may 1;cut 1;");
            x.rule(i, 4 - i <= i + 1 ? 4 - i : i);
        }
        x.feed(7, 0);
        int[] want = {1, 2, 3, 4, 5, 5, 7, 0, 1, 2, 1};
        for (int what = 0; what < want.length; what++) {
            due("count " + what, x.count(what), want[what]);
        }
        due("what -1", x.count(-1), -2);
        due("what 11", x.count(11), -2);
        due("what least", x.count(MIN), -2);
        due("what greatest", x.count(MAX), -2);
    }

    private void promise33() {
        check.part("promise 33");
        RiverCompact x = new RiverCompact();
        due("sheet -1", x.sheet(-1, 0, 1), -2);
        due("sheet 4", x.sheet(4, 0, 1), -2);
        due("sort -2", x.sheet(0, -2, 1), -2);
        due("sort 3", x.sheet(0, 3, 1), -2);
        due("n 41", x.sheet(0, 0, 41), -2);
        due("n -1", x.sheet(0, 0, -1), -14);
        due("n least", x.sheet(0, 2, MIN), -14);
        due("bad ahead of n", x.sheet(0, 3, -1), -2);
        due("still missing", x.cell(0, 0, 1), -11);
        due("n 40", x.sheet(0, 2, 40), 1);
        due("its last", x.cell(0, 39, 5), 1);
        due("a refusal", x.sheet(0, 2, -1), -14);
        due("changes nothing", x.gauges(0, 0, 0, 2, 39, 1), 1);
        due("as it was", x.read(0, 0), 5);
        due("again", x.sheet(0, 2, 40), 1);
        due("all 0", x.gauges(0, 0, 0, 2, 39, 1), 1);
        due("all 0 now", x.read(0, 0), 0);
        due("of nothing", x.sheet(0, 1, 0), 1);
        due("no place", x.cell(0, 0, 0), -12);
        due("missing, any n", x.sheet(0, -1, 999), 1);
        due("missing, n below 0", x.sheet(0, -1, -1), 1);
        due("is missing", x.cell(0, 0, 0), -11);
    }

    private void promise34() {
        check.part("promise 34");
        RiverCompact x = new RiverCompact();
        due("sheet -1", x.cell(-1, 0, 0), -2);
        due("sheet 4", x.cell(4, 0, 0), -2);
        due("missing", x.cell(0, -1, 0), -11);
        int[] values = {70, 256 + 70, 65536 + 70, -1, 128, 32768};
        int[][] kept = {{70, 70, 70, -1, -1, 0}, {70, 326, 70, -1, 128, -1}, {70, 326, 65606, -1, 128, 32768}};
        for (int sort = 0; sort < 3; sort++) {
            for (int i = 0; i < values.length; i++) {
                x = new RiverCompact();
                x.sheet(1, sort, 3);
                due("cell", x.cell(1, 2, values[i]), 1);
                int came = x.gauges(0, 0, 1, sort, 2, 1);
                due("sort " + sort + " of " + values[i], came == 0 ? -1 : x.read(0, 0), kept[sort][i]);
            }
        }
        due("place -1", x.cell(1, -1, 0), -12);
        due("place 3", x.cell(1, 3, 0), -12);
        due("place greatest", x.cell(1, MAX, 0), -12);
    }

    /** What a sheet's items are, by way of gauges. */
    private void items(RiverCompact x, int sheet, int sort, int... want) {
        due("they come", x.gauges(3, 20, sheet, sort, 0, want.length), want.length);
        for (int i = 0; i < want.length; i++) {
            due("item " + i, x.read(3, 20 + i), want[i]);
        }
    }

    private static RiverCompact fiveShorts() {
        RiverCompact x = new RiverCompact();
        x.sheet(0, 1, 5);
        x.sheet(1, 1, 3);
        for (int i = 0; i < 5; i++) {
            x.cell(0, i, 10 + i);
        }
        return x;
    }

    private void promise35() {
        check.part("promise 35");
        RiverCompact x = fiveShorts();
        due("to another", x.copy(0, 1, 1, 0, 3), 3);
        items(x, 1, 1, 11, 12, 13);
        due("on", x.copy(0, 0, 0, 2, 3), 3);
        items(x, 0, 1, 10, 11, 10, 11, 12);
        x = fiveShorts();
        due("back", x.copy(0, 2, 0, 0, 3), 3);
        items(x, 0, 1, 12, 13, 14, 13, 14);
        due("none at the end", x.copy(0, 5, 1, 3, 0), 0);
        due("i -1", x.copy(0, -1, 1, 0, 1), -12);
        due("j -1", x.copy(0, 0, 1, -1, 1), -12);
        due("n -1", x.copy(0, 0, 1, 0, -1), -12);
        due("n least", x.copy(0, 0, 1, 0, MIN), -12);
        due("n greatest", x.copy(0, 1, 1, 1, MAX), -12);
        due("i greatest", x.copy(0, MAX, 1, 1, MAX), -12);
        due("beyond the one", x.copy(0, 4, 1, 0, 2), -12);
        due("beyond the other", x.copy(0, 0, 1, 2, 2), -12);
        due("none beyond", x.copy(0, 6, 1, 0, 0), -12);
        due("sheet -1", x.copy(-1, 0, 1, 0, 1), -2);
        due("other 4", x.copy(0, 0, 4, 0, 1), -2);
        due("missing", x.copy(2, 0, 1, 0, -1), -11);
        due("other missing", x.copy(0, 0, 2, 0, -1), -11);
        x.sheet(2, 2, 2);
        due("unlike", x.copy(0, 0, 2, 0, -1), -13);
        due("unlike the other way", x.copy(2, 0, 0, 0, 1), -13);
        x.sheet(3, -1, 0);
        due("missing ahead of unlike", x.copy(2, 0, 3, 0, 1), -11);
        items(x, 1, 1, 0, 0, 0);
    }

    private void promise36() {
        check.part("promise 36");
        RiverCompact x = fiveShorts();
        due("reach -1", x.gauges(-1, 0, 0, 1, 0, 1), -2);
        due("reach 7", x.gauges(7, 0, 0, 1, 0, 1), -2);
        due("month -1", x.gauges(0, -1, 0, 1, 0, 1), -2);
        due("month 96", x.gauges(0, 96, 0, 1, 0, 1), -2);
        due("sheet -1", x.gauges(0, 0, -1, 1, 0, 1), -2);
        due("sheet 4", x.gauges(0, 0, 4, 1, 0, 1), -2);
        due("sort -1", x.gauges(0, 0, 2, -1, 0, 1), -2);
        due("sort 3", x.gauges(0, 0, 0, 3, 0, 1), -2);
        due("n -1", x.gauges(0, 0, 0, 1, 0, -1), -2);
        due("n 25", x.gauges(0, 0, 0, 1, 0, 25), -2);
        due("missing", x.gauges(0, 0, 2, 1, 0, 0), -11);
        due("another sort, ahead of its place", x.gauges(0, 0, 0, 0, 9, 1), -13);
        due("none from outside", x.gauges(0, 0, 0, 1, 99, 0), 0);
        due("from -1", x.gauges(0, 0, 0, 1, -1, 2), -12);
        due("from least", x.gauges(0, 0, 0, 1, MIN, 2), -12);
        due("from greatest", x.gauges(0, 0, 0, 1, MAX, 24), -12);
        due("none came yet", x.count(3), 0);
        due("two", x.gauges(2, 7, 0, 1, 3, 2), 2);
        due("the first", x.read(2, 7), 13);
        due("the second", x.read(2, 8), 14);
        due("beyond its end", x.gauges(2, 30, 0, 1, 3, 3), -12);
        due("what stood ahead came", x.count(3), 4);
        due("both", x.read(2, 31), 14);
        due("behind the last month", x.gauges(5, 94, 0, 1, 0, 5), 2);
        due("month 95", x.read(5, 95), 11);
        x.cell(0, 1, -1);
        due("one is left out", x.gauges(6, 50, 0, 1, 0, 3), 2);
        due("with its month", x.read(6, 51), 0);
        due("the month behind", x.read(6, 52), 12);
        x.sheet(1, 2, 40);
        x.cell(1, 0, 99999);
        x.cell(1, 1, 100000);
        due("too great", x.gauges(4, 50, 1, 2, 0, 2), 1);
        due("the greatest", x.read(4, 50), 99999);
        due("24 of them", x.gauges(4, 52, 1, 2, 2, 24), 24);
        due("as far as there is room", x.gauges(0, 0, 1, 2, 2, 24), 40 - 33);
        due("full", x.gauges(0, 0, 1, 2, 2, 24), 0);
        due("full, and outside", x.gauges(0, 0, 1, 2, 39, 2), -12);
        due("how many", x.count(3), 40);
    }

    private void promise37() {
        check.part("promise 37");
        RiverCompact x = new RiverCompact();
        due("no hold", x.taken(0, 0), -11);
        due("k -1 ahead", x.taken(0, -1), -2);
        due("k 6 ahead", x.taken(0, 6), -2);
        boolean[][] is = {{true, false, false, false, false, false}, {true, true, false, false, false, false},
            {true, false, true, false, false, false}, {true, true, false, true, false, false},
            {true, true, false, false, true, false}, {true, true, false, true, false, true}};
        for (int kind = 0; kind < 6; kind++) {
            x.hold(kind, 0, 0, 20 + kind, 0);
            for (int k = 0; k < 6; k++) {
                due("kind " + kind + " as " + k, x.taken(kind, k), is[kind][k] ? 20 + kind : -13);
            }
        }
        due("hold -1", x.taken(-1, 0), -11);
        due("hold 6", x.taken(6, 0), -11);
        due("k of an existing one", x.taken(0, 6), -2);
    }
}
