import java.util.Random;

/** Runs of calls drawn from fixed seeds, each answer held against the slow model's. */
public final class ModelTest {
    private static final int RUNS = 150;
    private static final int CALLS = 160;

    private final Check check;
    private final Random random;
    private final RiverCompact x = new RiverCompact();
    private final Model m = new Model();
    private int holds;

    private ModelTest(Check check, long seed) {
        this.check = check;
        random = new Random(seed);
    }

    public static void main(String[] args) {
        Check check = new Check("ModelTest");
        int runs = args.length > 0 ? Integer.parseInt(args[0]) : RUNS;
        int first = args.length > 1 ? Integer.parseInt(args[1]) : 0;
        for (int seed = first; seed < first + runs; seed++) {
            check.part("seed " + seed);
            new ModelTest(check, seed).run(seed);
        }
        check.end();
    }

    private void run(int seed) {
        setUp(seed);
        for (int i = 0; i < CALLS && check.wrongSoFar() < 20; i++) {
            if (random.nextInt(10) < 4) {
                tell();
            } else {
                ask();
            }
        }
    }

    private void setUp(int seed) {
        for (int reach = 0; reach < 7; reach++) {
            for (int y = 0; y < 12; y++) {
                if (random.nextInt(3) > 0) {
                    int n = random.nextInt(seed % 3 == 0 ? 10000 : 900);
                    check.due("side", x.side(reach, y, n), m.side(reach, y, n));
                }
            }
            int rate = random.nextInt(100);
            check.due("salt", x.salt(reach, rate), m.salt(reach, rate));
        }
        for (int i = seed % 3; i > 0; i--) {
            tellLake();
        }
        for (int i = 3 + random.nextInt(8); i > 0; i--) {
            tellHold();
        }
    }

    /** A number in least .. most, at times at an end of that or outside. */
    private int near(int least, int most) {
        int luck = random.nextInt(60);
        if (luck == 0) return least - 1;
        if (luck == 1) return most + 1;
        if (luck == 2) return random.nextBoolean() ? Integer.MAX_VALUE : Integer.MIN_VALUE;
        if (luck < 6) return least;
        if (luck < 9) return most;
        return least + (int) (random.nextDouble() * ((long) most - least + 1));
    }

    private int reach() {
        return near(0, 6);
    }

    private int month() {
        return near(0, 95);
    }

    private int aHold() {
        return near(0, Math.max(0, holds - 1));
    }

    private void tellLake() {
        int reach = reach();
        int room = near(0, random.nextInt(3) == 0 ? 99999 : 9000);
        int level = near(0, Math.min(Math.max(room, 0), 99999));
        int surface = near(0, 99);
        int release = near(0, random.nextInt(4) == 0 ? 9999 : 1200);
        check.due("lake", x.lake(reach, room, level, surface, release), m.lake(reach, room, level, surface, release));
    }

    private void tellHold() {
        int kind = near(0, 5);
        int state = near(0, 3);
        int reach = reach();
        int n = kind == 2 ? near(0, 100) : near(0, random.nextInt(5) == 0 ? 9999 : 900);
        int since = near(0, random.nextInt(3) == 0 ? 30 : 9999);
        check.due("hold", x.hold(kind, state, reach, n, since), m.hold(kind, state, reach, n, since));
        holds = m.count(0);
    }

    private void tell() {
        int a = reach();
        int b = month();
        switch (random.nextInt(15)) {
            case 0: {
                int y = near(0, 11);
                int n = near(0, 9999);
                check.due("side", x.side(a, y, n), m.side(a, y, n));
                break;
            }
            case 1: {
                int n = near(0, 99);
                check.due("salt", x.salt(a, n), m.salt(a, n));
                break;
            }
            case 2: {
                int n = near(-9999, 9999);
                check.due("flood", x.flood(a, b, n), m.flood(a, b, n));
                break;
            }
            case 3: {
                int n = near(0, 99999) / (1 + random.nextInt(100));
                check.due("gauge", x.gauge(a, b, n), m.gauge(a, b, n));
                break;
            }
            case 4:
                tellLake();
                break;
            case 5: {
                int n = near(0, 9999);
                check.due("release", x.release(a, n), m.release(a, n));
                break;
            }
            case 6: case 7:
                tellHold();
                break;
            case 8: {
                int h = aHold();
                int from = near(0, 96);
                int to = near(Math.max(0, Math.min(from, 96)), 96);
                check.due("force", x.force(h, from, to), m.force(h, from, to));
                break;
            }
            case 9: case 10: {
                int h = aHold();
                check.due("call", x.call(h, b), m.call(h, b));
                break;
            }
            case 11: case 12:
                tellText();
                break;
            case 13: {
                int state = near(0, 3);
                int text = near(0, Math.max(0, m.count(5) - 1));
                check.due("rule", x.rule(state, text), m.rule(state, text));
                break;
            }
            default:
                tellSheet();
        }
    }

    private void tellSheet() {
        int sheet = near(0, 3);
        int sort = near(-1, 2);
        switch (random.nextInt(5)) {
            case 0: {
                int n = near(0, 40);
                check.due("sheet", x.sheet(sheet, sort, n), m.sheet(sheet, sort, n));
                break;
            }
            case 1: case 2:
                for (int k = 0; k < 10; k++) {
                    int i = near(0, 39);
                    int v = random.nextBoolean() ? random.nextInt() : near(0, 9999);
                    check.due("cell", x.cell(sheet, i, v), m.cell(sheet, i, v));
                }
                break;
            case 3: {
                int other = near(0, 3);
                int i = near(0, 30);
                int j = near(0, 30);
                int n = near(0, 20);
                check.due("copy", x.copy(sheet, i, other, j, n), m.copy(sheet, i, other, j, n));
                break;
            }
            default: {
                int a = reach();
                int b = month();
                int from = near(0, 20);
                int n = near(0, 24);
                check.due("gauges", x.gauges(a, b, sheet, sort, from, n), m.gauges(a, b, sheet, sort, from, n));
            }
        }
    }

    private void tellText() {
        StringBuilder words = new StringBuilder("may ");
        int depth = random.nextInt(4);
        expression(words, depth);
        words.append(random.nextBoolean() ? ";" : " ; ").append("cut ");
        expression(words, depth);
        words.append(";");
        if (random.nextInt(3) == 0) {
            spoil(words);
        }
        feed(words.toString());
        if (random.nextInt(20) > 0) {
            check.due("text of " + words, x.text(), m.text());
            int state = random.nextInt(4);
            int text = m.count(5) - 1;
            check.due("rule", x.rule(state, text), m.rule(state, text));
        }
    }

    private void feed(String words) {
        int place = 0;
        while (place < words.length()) {
            int n = Math.min(1 + random.nextInt(8), words.length() - place);
            long bytes = n < 8 ? random.nextLong() << (8 * n) : 0;
            for (int i = 0; i < n; i++) {
                bytes |= (long) words.charAt(place + i) << (8 * i);
            }
            int size = x.feed(n, bytes);
            check.due("feed", size, m.feed(n, bytes));
            if (size < 0) {
                return;
            }
            place += n;
        }
    }

    private void spoil(StringBuilder words) {
        String signs = "();+-*<= \n09azmnot!\u00e9";
        int at = random.nextInt(words.length());
        switch (random.nextInt(3)) {
            case 0:
                words.deleteCharAt(at);
                break;
            case 1:
                words.setLength(at);
                break;
            default:
                words.insert(at, signs.charAt(random.nextInt(signs.length())));
        }
    }

    private void expression(StringBuilder words, int depth) {
        String[] names = {"month", "year", "rank", "level", "read", "state"};
        int luck = random.nextInt(12);
        if (depth <= 0 || luck < 3) {
            if (random.nextInt(3) == 0) {
                words.append(random.nextInt(random.nextInt(3) == 0 ? 10000 : 60));
            } else {
                words.append(names[random.nextInt(6)]);
            }
            return;
        }
        if (luck == 3) {
            words.append("not ");
            expression(words, depth - 1);
        } else if (luck == 4) {
            words.append("- ");
            expression(words, depth - 1);
        } else if (luck == 5) {
            words.append("(");
            expression(words, depth - 1);
            words.append(")");
        } else {
            String[] between = {"+", " - ", "*", "<", " = ", " or ", " and "};
            expression(words, depth - 1);
            words.append(between[random.nextInt(7)]);
            expression(words, depth - 1);
        }
    }

    private void ask() {
        int a = reach();
        int b = month();
        int h = aHold();
        switch (random.nextInt(24)) {
            case 0:
                check.due("read", x.read(a, b), m.read(a, b));
                break;
            case 1: {
                int what = near(0, 6);
                check.due("holdTold", x.holdTold(h, what), m.holdTold(h, what));
                break;
            }
            case 2: case 3: {
                int what = near(0, 4);
                check.due("takes", x.takes(h, b, what), m.takes(h, b, what));
                break;
            }
            case 4: {
                int from = near(0, 96);
                int to = near(0, 96);
                check.due("all", x.all(h, from, to), m.all(h, from, to));
                break;
            }
            case 5: case 6: {
                int call = near(0, Math.max(0, m.count(4) - 1));
                check.due("helps", x.helps(call), m.helps(call));
                break;
            }
            case 7: {
                int part = near(0, 1);
                check.due("says", x.says(h, b, part), m.says(h, b, part));
                break;
            }
            case 8: case 9: case 10: {
                int what = near(0, 6);
                check.due("told", x.told(a, b, what), m.told(a, b, what));
                break;
            }
            case 11: case 12: {
                int what = near(0, 5);
                check.due("lakeTold", x.lakeTold(a, b, what), m.lakeTold(a, b, what));
                break;
            }
            case 13:
                check.due("sharp", x.sharp(b), m.sharp(b));
                break;
            case 14: {
                int what = near(0, 7);
                check.due("sum", x.sum(what), m.sum(what));
                break;
            }
            default:
                askMore(a, b, h);
        }
    }

    private void askMore(int a, int b, int h) {
        switch (random.nextInt(9)) {
            case 0: {
                int p = near(0, random.nextBoolean() ? 9999999 : 30000);
                int w = near(1, 60);
                check.due("owed", x.owed(a, b, p, w), m.owed(a, b, p, w));
                check.due("breaks", x.breaks(a, p, w), m.breaks(a, p, w));
                break;
            }
            case 1: {
                int state = near(0, 3);
                int n = near(0, 2000);
                int since = near(0, 5000);
                check.due("found", x.found(state, a, n, since), m.found(state, a, n, since));
                break;
            }
            case 2:
                check.due("sold", x.sold(h, a), m.sold(h, a));
                break;
            case 3:
                check.due("harm", x.harm(h, a), m.harm(h, a));
                break;
            case 4: {
                int first = near(0, Math.max(0, m.count(5) - 1));
                int second = near(0, Math.max(0, m.count(5) - 1));
                int state = near(0, 3);
                int year = near(0, 7);
                check.due("unlike", x.unlike(first, second, state, year), m.unlike(first, second, state, year));
                break;
            }
            case 5: {
                int power = random.nextInt(3) == 0 ? near(0, 2000000000) : (int) (m.sum(7) * random.nextDouble() * 1.2);
                int what = near(0, 1);
                check.due("held", x.held(power, what), m.held(power, what));
                break;
            }
            case 6: {
                int bits = random.nextInt(1 << Math.max(1, holds)) & random.nextInt();
                int bound = random.nextBoolean() ? near(0, 99999) : near(0, 150);
                check.due("dry", x.dry(bits, bound), m.dry(bits, bound));
                break;
            }
            case 7: {
                int what = near(0, 10);
                check.due("count", x.count(what), m.count(what));
                break;
            }
            default: {
                int k = near(0, 5);
                check.due("taken", x.taken(h, k), m.taken(h, k));
            }
        }
    }
}
