import java.util.ArrayList;
import java.util.List;

/**
 * A second, slow reading of the document, written for the tests alone: nothing is kept between calls but what is
 * told, each answer is worked from month 0, and a text is evaluated while it is being parsed.
 */
final class Model {
    static final long NO = -4611686018427387904L;

    /** What is told; the "if" calls change a copy of it. */
    static final class Setup {
        long[][] side = new long[7][12];
        long[] rate = new long[7];
        long[][] lakes = new long[7][];
        List<int[]> floods = new ArrayList<>();
        List<int[]> gauges = new ArrayList<>();
        List<int[]> holds = new ArrayList<>();
        List<int[]> calls = new ArrayList<>();
        int[] textOf = new int[4];
        List<String> texts = new ArrayList<>();
        int leftDry;

        Setup copy() {
            Setup s = new Setup();
            for (int r = 0; r < 7; r++) {
                s.side[r] = side[r].clone();
                s.lakes[r] = lakes[r] == null ? null : lakes[r].clone();
            }
            s.rate = rate.clone();
            s.floods.addAll(floods);
            s.gauges.addAll(gauges);
            for (int[] h : holds) {
                s.holds.add(h.clone());
            }
            s.calls.addAll(calls);
            s.textOf = textOf.clone();
            s.texts.addAll(texts);
            return s;
        }

        long sideOf(int r, int m) {
            long n = side[r][m % 12];
            for (int[] f : floods) {
                if (f[0] == r && f[1] == m) {
                    n += f[2];
                }
            }
            return n < 0 ? 0 : n;
        }

        long readOf(int r, int m) {
            for (int i = gauges.size() - 1; i >= 0; i--) {
                if (gauges.get(i)[0] == r && gauges.get(i)[1] == m) {
                    return gauges.get(i)[2];
                }
            }
            return r == 0 ? 0 : readOf(r - 1, m);
        }

        long rank(int h) {
            return rankAs(holds.get(h)[0], holds.get(h));
        }

        private long rankAs(int kind, int[] hold) {
            switch (kind) {
                case 0: return hold[4];
                case 1: return rankAs(0, hold);
                case 2: return 0;
                case 3: return rankAs(1, hold) - 1000;
                case 4: return rankAs(1, hold) + 1;
                default: return rankAs(3, hold) - 1000;
            }
        }

        long backOf(int kind) {
            switch (kind) {
                case 0: return 0;
                case 1: return 40;
                case 2: return 20;
                case 3: return backOf(1) + 10;
                case 4: return backOf(1) / 2;
                default: return backOf(3);
            }
        }

        long asks(int h, int m) {
            return asksAs(holds.get(h)[0], holds.get(h), m);
        }

        private long asksAs(int kind, int[] hold, int m) {
            int y = m % 12;
            switch (kind) {
                case 0: return hold[3];
                case 1: return y < 3 || y > 8 ? 0 : asksAs(0, hold, m);
                case 2: return hold[3] * readOf(hold[2], m) / 100;
                case 3: return asksAs(0, hold, m);
                case 4: return asksAs(1, hold, m) + asksAs(1, hold, m) / 10;
                default: return asksAs(3, hold, m) + (y == 6 || y == 7 ? asksAs(3, hold, m) / 2 : 0);
            }
        }

        boolean isShut(int h, int m) {
            for (int[] call : calls) {
                if (call[1] == m && holds.get(h)[2] <= holds.get(call[0])[2] && rank(h) > rank(call[0])) {
                    return true;
                }
            }
            return false;
        }

        int worth(int h, int m, int part, long levels) {
            int[] hold = holds.get(h);
            int[] names = {m % 12, m / 12, (int) rank(h), (int) levels, (int) readOf(hold[2], m), hold[1]};
            ModelText text = new ModelText(texts.get(textOf[hold[1]]), names);
            return part == 0 ? text.may : text.cut;
        }

        long wants(int h, int m, long levels) {
            int[] hold = holds.get(h);
            if (m < hold[5] || m >= hold[6] || isShut(h, m) || (leftDry >> h & 1) == 1) {
                return 0;
            }
            if (worth(h, m, 0, levels) == 0) {
                return 0;
            }
            long cut = worth(h, m, 1, levels);
            cut = cut < 0 ? 0 : cut > 100 ? 100 : cut;
            return asks(h, m) - asks(h, m) * cut / 100;
        }
    }

    /** What comes of a setup. */
    static final class Result {
        long[][] side = new long[7][96], returns = new long[7][96], comes = new long[7][96], water = new long[7][96];
        long[][] on = new long[7][96], comesSalt = new long[7][96], onSalt = new long[7][96];
        long[][] level = new long[7][97], levelSalt = new long[7][97], steam = new long[7][96];
        long[][] head = new long[7][96], power = new long[7][96];
        long[][] back = new long[7][97], backSalt = new long[7][97];
        long[][] wants = new long[16][96], gets = new long[16][96];
        long[] levels = new long[96];

        Result(Setup s) {
            for (int r = 0; r < 7; r++) {
                level[r][0] = s.lakes[r] == null ? 0 : s.lakes[r][1];
            }
            for (int m = 0; m < 96; m++) {
                for (int r = 0; r < 7; r++) {
                    levels[m] += level[r][m];
                }
                for (int r = 0; r < 7; r++) {
                    reach(s, r, m);
                }
            }
        }

        private void reach(Setup s, int r, int m) {
            side[r][m] = s.sideOf(r, m);
            comes[r][m] = side[r][m];
            comesSalt[r][m] = side[r][m] * s.rate[r] / 1000;
            if (r > 0) {
                returns[r][m] = m == 0 ? 0 : back[r - 1][m - 1];
                comes[r][m] += on[r - 1][m] + returns[r][m];
                comesSalt[r][m] += onSalt[r - 1][m] + (m == 0 ? 0 : backSalt[r - 1][m - 1]);
            }
            long w = comes[r][m];
            long salt = comesSalt[r][m];
            if (s.lakes[r] != null) {
                steam[r][m] = level[r][m] * s.lakes[r][2] / 1000;
                head[r][m] = level[r][m] / 100;
                long inIt = level[r][m] - steam[r][m] + w;
                long saltInIt = levelSalt[r][m] + salt;
                long out = s.lakes[r][3] < inIt ? s.lakes[r][3] : inIt;
                if (inIt - out > s.lakes[r][0]) {
                    out += inIt - out - s.lakes[r][0];
                }
                salt = inIt == 0 ? 0 : saltInIt * out / inIt;
                w = out;
                level[r][m + 1] = inIt - out;
                levelSalt[r][m + 1] = saltInIt - salt;
                power[r][m] = head[r][m] * out;
            }
            water[r][m] = w;
            List<Integer> here = new ArrayList<>();
            for (int h = 0; h < s.holds.size(); h++) {
                if (s.holds.get(h)[2] == r) {
                    here.add(h);
                }
            }
            here.sort((a, b) -> s.rank(a) != s.rank(b) ? Long.compare(s.rank(a), s.rank(b)) : Integer.compare(a, b));
            for (int h : here) {
                wants[h][m] = s.wants(h, m, levels[m]);
                long got = wants[h][m] < w ? wants[h][m] : w;
                long took = w == 0 ? 0 : salt * got / w;
                gets[h][m] = got;
                w -= got;
                salt -= took;
                back[r][m] += got * s.backOf(s.holds.get(h)[0]) / 100;
                backSalt[r][m] += took + got / 50;
            }
            on[r][m] = w;
            onSalt[r][m] = salt;
        }

        long sharp(int m) {
            return on[6][m] == 0 ? 0 : Math.min(1000000, onSalt[6][m] * 1000 / on[6][m]);
        }

        long all(int h, int from, int to) {
            long n = 0;
            for (int m = from; m < to; m++) {
                n += gets[h][m];
            }
            return n;
        }

        static long total(long[][] rows, int from, int to) {
            long n = 0;
            for (int r = from; r < to; r++) {
                for (int m = 0; m < 96; m++) {
                    n += rows[r][m];
                }
            }
            return n;
        }
    }

    private final Setup s = new Setup();
    private Result result;
    private final StringBuilder tape = new StringBuilder();
    private final Object[] sheets = new Object[4];

    Model() {
        s.texts.add("may 1 ; cut 0 ;");
    }

    private Result now() {
        if (result == null) {
            result = new Result(s);
        }
        return result;
    }

    private static boolean in(long n, long least, long most) {
        return n >= least && n <= most;
    }

    int side(int reach, int y, int n) {
        if (!in(reach, 0, 6) || !in(y, 0, 11) || !in(n, 0, 9999)) return -2;
        int was = (int) s.side[reach][y];
        s.side[reach][y] = n;
        result = null;
        return was;
    }

    int salt(int reach, int n) {
        if (!in(reach, 0, 6) || !in(n, 0, 99)) return -2;
        int was = (int) s.rate[reach];
        s.rate[reach] = n;
        result = null;
        return was;
    }

    int flood(int reach, int month, int n) {
        if (!in(reach, 0, 6) || !in(month, 0, 95) || !in(n, -9999, 9999)) return -2;
        if (s.floods.size() == 24) return -4;
        s.floods.add(new int[] {reach, month, n});
        result = null;
        return s.floods.size() - 1;
    }

    int gauge(int reach, int month, int n) {
        if (!in(reach, 0, 6) || !in(month, 0, 95) || !in(n, 0, 99999)) return -2;
        if (s.gauges.size() == 40) return -4;
        s.gauges.add(new int[] {reach, month, n});
        result = null;
        return s.gauges.size() - 1;
    }

    int read(int reach, int month) {
        return in(reach, 0, 6) && in(month, 0, 95) ? (int) s.readOf(reach, month) : -2;
    }

    int lake(int reach, int room, int level, int surface, int release) {
        if (!in(reach, 0, 6) || !in(room, 0, 99999) || !in(level, 0, room) || !in(surface, 0, 99)) return -2;
        if (!in(release, 0, 9999)) return -2;
        int isNew = s.lakes[reach] == null ? 1 : 0;
        s.lakes[reach] = new long[] {room, level, surface, release};
        result = null;
        return isNew;
    }

    int release(int reach, int n) {
        if (!in(reach, 0, 6) || !in(n, 0, 9999)) return -2;
        if (s.lakes[reach] == null) return -5;
        int was = (int) s.lakes[reach][3];
        s.lakes[reach][3] = n;
        result = null;
        return was;
    }

    private static boolean canBe(int kind, int state, int reach, int n, int since) {
        return in(kind, 0, 5) && in(state, 0, 3) && in(reach, 0, 6) && in(n, 0, 9999) && in(since, 0, 9999)
            && (kind != 2 || n <= 100);
    }

    int hold(int kind, int state, int reach, int n, int since) {
        if (!canBe(kind, state, reach, n, since)) return -2;
        if (s.holds.size() == 16) return -4;
        s.holds.add(new int[] {kind, state, reach, n, since, 0, 96});
        result = null;
        return s.holds.size() - 1;
    }

    int force(int hold, int from, int to) {
        if (!in(hold, 0, s.holds.size() - 1) || !in(from, 0, 96) || !in(to, from, 96)) return -2;
        s.holds.get(hold)[5] = from;
        s.holds.get(hold)[6] = to;
        result = null;
        return to - from;
    }

    int holdTold(int hold, int what) {
        if (!in(hold, 0, s.holds.size() - 1) || !in(what, 0, 6)) return -2;
        if (what < 5) return s.holds.get(hold)[what];
        return what == 5 ? (int) s.rank(hold) : (int) s.backOf(s.holds.get(hold)[0]);
    }

    int takes(int hold, int month, int what) {
        if (!in(hold, 0, s.holds.size() - 1) || !in(month, 0, 95) || !in(what, 0, 4)) return -2;
        long gets = now().gets[hold][month];
        switch (what) {
            case 0: return (int) s.asks(hold, month);
            case 1: return (int) now().wants[hold][month];
            case 2: return (int) gets;
            case 3: return (int) (gets * s.backOf(s.holds.get(hold)[0]) / 100);
            default: return s.isShut(hold, month) ? 1 : 0;
        }
    }

    long all(int hold, int from, int to) {
        if (!in(hold, 0, s.holds.size() - 1) || !in(from, 0, 96) || !in(to, from, 96)) return NO;
        return now().all(hold, from, to);
    }

    int call(int hold, int month) {
        if (!in(hold, 0, s.holds.size() - 1) || !in(month, 0, 95)) return -2;
        if (s.calls.size() == 16) return -4;
        s.calls.add(new int[] {hold, month});
        result = null;
        return s.calls.size() - 1;
    }

    int helps(int call) {
        if (!in(call, 0, s.calls.size() - 1)) return -2;
        Setup other = s.copy();
        int[] gone = other.calls.remove(call);
        return (int) (now().gets[gone[0]][gone[1]] - new Result(other).gets[gone[0]][gone[1]]);
    }

    int feed(int n, long bytes) {
        if (!in(n, 1, 8)) return -2;
        if (tape.length() + n > 160) return -4;
        for (int i = 0; i < n; i++) {
            tape.append((char) (bytes & 255));
            bytes >>= 8;
        }
        return tape.length();
    }

    int text() {
        if (s.texts.size() == 6) return -4;
        String words = tape.toString();
        tape.setLength(0);
        int fault = new ModelText(words, new int[6]).fault;
        if (fault >= 0) return -100 - fault;
        s.texts.add(words);
        return s.texts.size() - 1;
    }

    int rule(int state, int text) {
        if (!in(state, 0, 3) || !in(text, 0, s.texts.size() - 1)) return -2;
        int was = s.textOf[state];
        s.textOf[state] = text;
        result = null;
        return was;
    }

    long says(int hold, int month, int part) {
        if (!in(hold, 0, s.holds.size() - 1) || !in(month, 0, 95) || !in(part, 0, 1)) return NO;
        return s.worth(hold, month, part, now().levels[month]);
    }

    int told(int reach, int month, int what) {
        if (!in(reach, 0, 6) || !in(month, 0, 95) || !in(what, 0, 6)) return -2;
        Result r = now();
        long[][][] rows = {r.side, r.returns, r.comes, r.water, r.on, r.comesSalt, r.onSalt};
        return (int) rows[what][reach][month];
    }

    int lakeTold(int reach, int month, int what) {
        if (!in(reach, 0, 6) || !in(month, 0, 95) || !in(what, 0, 5)) return -2;
        if (s.lakes[reach] == null) return -5;
        Result r = now();
        long[][][] rows = {r.level, r.steam, r.water, r.head, r.power, r.levelSalt};
        return (int) rows[what][reach][month];
    }

    int sharp(int month) {
        return in(month, 0, 95) ? (int) now().sharp(month) : -2;
    }

    long sum(int what) {
        Result r = now();
        switch (what) {
            case 0: return Result.total(r.on, 6, 7);
            case 1: return Result.total(r.side, 0, 7);
            case 2: return Result.total(r.gets, 0, 16);
            case 3: return Result.total(r.steam, 0, 7);
            case 4: return Result.total(r.returns, 0, 7);
            case 5: return Result.total(r.back, 6, 7);
            case 6:
                long n = 0;
                for (int reach = 0; reach < 6; reach++) {
                    n += r.back[reach][95];
                }
                return n;
            case 7: return Result.total(r.power, 0, 7);
            default: return NO;
        }
    }

    long owed(int reach, int month, int p, int w) {
        if (!in(reach, 0, 6) || !in(month, 0, 95) || !in(p, 0, 9999999) || !in(w, 1, 60)) return NO;
        if (month + 1 < w) return 0;
        long n = p;
        for (int i = 0; i < w; i++) {
            n -= now().on[reach][month - i];
        }
        return n < 0 ? 0 : n;
    }

    int breaks(int reach, int p, int w) {
        if (!in(reach, 0, 6) || !in(p, 0, 9999999) || !in(w, 1, 60)) return -2;
        int month = 0;
        while (month < 96 && owed(reach, month, p, w) == 0) {
            month++;
        }
        return month == 96 ? -1 : month;
    }

    private int less(Result then) {
        int bits = 0;
        for (int h = 0; h < s.holds.size(); h++) {
            bits |= then.all(h, 0, 96) < now().all(h, 0, 96) ? 1 << h : 0;
        }
        return bits;
    }

    int found(int state, int reach, int n, int since) {
        if (!canBe(3, state, reach, n, since)) return -2;
        if (s.holds.size() == 16) return -4;
        Setup other = s.copy();
        other.holds.add(new int[] {3, state, reach, n, since, 0, 96});
        return less(new Result(other));
    }

    private Result ifSold(int hold, int reach) {
        Setup other = s.copy();
        other.holds.get(hold)[2] = reach;
        return new Result(other);
    }

    int sold(int hold, int reach) {
        if (!in(hold, 0, s.holds.size() - 1) || !in(reach, 0, 6)) return -2;
        return less(ifSold(hold, reach)) & (-1 - (1 << hold));
    }

    long harm(int hold, int reach) {
        if (!in(hold, 0, s.holds.size() - 1) || !in(reach, 0, 6)) return NO;
        Result then = ifSold(hold, reach);
        long others = Result.total(now().gets, 0, 16) - now().all(hold, 0, 96);
        long othersThen = Result.total(then.gets, 0, 16) - then.all(hold, 0, 96);
        return Math.max(0, others - othersThen);
    }

    long unlike(int first, int second, int state, int year) {
        int texts = s.texts.size();
        if (!in(first, 0, texts - 1) || !in(second, 0, texts - 1) || !in(state, 0, 3) || !in(year, 0, 7)) return NO;
        return ofYear(first, state, year) - ofYear(second, state, year);
    }

    private long ofYear(int text, int state, int year) {
        Setup other = s.copy();
        other.textOf = new int[] {text, text, text, text};
        Result then = new Result(other);
        long n = 0;
        for (int h = 0; h < s.holds.size(); h++) {
            if (s.holds.get(h)[1] == state) {
                n += then.all(h, year * 12, year * 12 + 12);
            }
        }
        return n;
    }

    long held(int power, int what) {
        if (!in(power, 0, 2000000000) || !in(what, 0, 1)) return NO;
        List<Integer> lakes = new ArrayList<>();
        for (int r = 0; r < 7; r++) {
            if (s.lakes[r] != null) {
                lakes.add(r);
            }
        }
        if (lakes.size() > 3) return -6;
        int choices = (int) Math.round(Math.pow(4, lakes.size()));
        long best = -1;
        long least = Long.MAX_VALUE;
        for (int digits = 0; digits < choices; digits++) {
            Setup other = s.copy();
            int weight = choices / 4;
            for (int r : lakes) {
                int digit = digits / weight % 4;
                long as = s.lakes[r][3];
                other.lakes[r][3] = digit == 0 ? 0 : digit == 1 ? as / 2 : digit == 2 ? as : as + as;
                weight /= 4;
            }
            Result then = new Result(other);
            long steam = Result.total(then.steam, 0, 7);
            if (Result.total(then.power, 0, 7) >= power && steam < least) {
                best = digits;
                least = steam;
            }
        }
        return best < 0 ? -5 : what == 0 ? best : least;
    }

    int dry(int holds, int bound) {
        if (holds < 0 || holds >= 1 << s.holds.size() || Integer.bitCount(holds) > 6) return -2;
        if (!in(bound, 0, 99999)) return -2;
        int best = -1;
        long least = Long.MAX_VALUE;
        for (int set = 0; set <= holds; set++) {
            if ((set & ~holds) != 0) {
                continue;
            }
            Setup other = s.copy();
            other.leftDry = set;
            Result then = new Result(other);
            boolean does = true;
            for (int m = 0; m < 96; m++) {
                does &= then.sharp(m) <= bound;
            }
            long lost = 0;
            for (int h = 0; h < s.holds.size(); h++) {
                lost += (set >> h & 1) * now().all(h, 0, 96);
            }
            if (does && lost < least) {
                best = set;
                least = lost;
            }
        }
        return best;
    }

    int count(int what) {
        switch (what) {
            case 0: return s.holds.size();
            case 1:
                int lakes = 0;
                for (long[] lake : s.lakes) {
                    lakes += lake == null ? 0 : 1;
                }
                return lakes;
            case 2: return s.floods.size();
            case 3: return s.gauges.size();
            case 4: return s.calls.size();
            case 5: return s.texts.size();
            case 6: return tape.length();
            case 7: case 8: case 9: case 10: return s.textOf[what - 7];
            default: return -2;
        }
    }

    // The sheets are the host's own arrays, so that the host itself says what a place, a sort, a size is.

    int sheet(int sheet, int sort, int n) {
        if (!in(sheet, 0, 3) || !in(sort, -1, 2) || sort != -1 && n > 40) return -2;
        try {
            sheets[sheet] = sort == -1 ? null : sort == 0 ? new byte[n] : sort == 1 ? new short[n] : new int[n];
            return 1;
        } catch (NegativeArraySizeException e) {
            return -14;
        }
    }

    int cell(int sheet, int i, int v) {
        if (!in(sheet, 0, 3)) return -2;
        try {
            if (sheets[sheet] instanceof byte[] bytes) {
                bytes[i] = (byte) v;
            } else if (sheets[sheet] instanceof short[] shorts) {
                shorts[i] = (short) v;
            } else {
                ((int[]) sheets[sheet])[i] = v;
            }
            return 1;
        } catch (NullPointerException e) {
            return -11;
        } catch (IndexOutOfBoundsException e) {
            return -12;
        }
    }

    int copy(int sheet, int i, int other, int j, int n) {
        if (!in(sheet, 0, 3) || !in(other, 0, 3)) return -2;
        try {
            System.arraycopy(sheets[sheet], i, sheets[other], j, n);
            return n;
        } catch (NullPointerException e) {
            return -11;
        } catch (ArrayStoreException e) {
            return -13;
        } catch (IndexOutOfBoundsException e) {
            return -12;
        }
    }

    int gauges(int reach, int month, int sheet, int sort, int from, int n) {
        if (!in(reach, 0, 6) || !in(month, 0, 95) || !in(sheet, 0, 3) || !in(sort, 0, 2) || !in(n, 0, 24)) return -2;
        try {
            Object row = sheets[sheet];
            byte[] bytes = sort == 0 ? (byte[]) row : null;
            short[] shorts = sort == 1 ? (short[]) row : null;
            int[] ints = sort == 2 ? (int[]) row : null;
            int came = 0;
            int size = sort == 0 ? bytes.length : sort == 1 ? shorts.length : ints.length;
            for (int k = 0; k < n && size >= 0; k++) {
                int v = sort == 0 ? bytes[from + k] : sort == 1 ? shorts[from + k] : ints[from + k];
                if (gauge(reach, month + k, v) >= 0) {
                    came++;
                }
            }
            return came;
        } catch (ClassCastException e) {
            return -13;
        } catch (NullPointerException e) {
            return -11;
        } catch (IndexOutOfBoundsException e) {
            return -12;
        }
    }

    int taken(int hold, int k) {
        if (!in(k, 0, 5)) return -2;
        if (!in(hold, 0, s.holds.size() - 1)) return -11;
        String[] lines = {"0", "01", "02", "013", "014", "0135"};
        int[] one = s.holds.get(hold);
        return lines[one[0]].indexOf('0' + k) >= 0 ? one[3] : -13;
    }
}
