import java.util.ArrayList;
import java.util.Arrays;
import java.util.List;
import java.util.function.ToIntFunction;

/**
 * The document written down a second time, as slowly and plainly as can be: every question is
 * answered from a fresh copy of the town, and texts are trees of functions. OracleTest holds the
 * class against it.
 */
final class Plain {
    static final class Thing {
        int kind, number, home, price;
    }

    static final class Sleeper {
        int cell, way, wakes, age;
    }

    record Rule(ToIntFunction<int[]> sees, ToIntFunction<int[]> worth, ToIntFunction<int[]> sleep) {
    }

    static final class Town {
        int[] high = new int[36];
        int fog = 0;
        int rule = 0;
        List<Thing> things = new ArrayList<>();
        List<Sleeper> sleepers = new ArrayList<>();

        Town twin() {
            Town t = new Town();
            t.high = high.clone();
            t.fog = fog;
            t.rule = rule;
            for (Thing a : things) {
                Thing b = new Thing();
                b.kind = a.kind;
                b.number = a.number;
                b.home = a.home;
                b.price = a.price;
                t.things.add(b);
            }
            for (Sleeper a : sleepers) {
                Sleeper b = new Sleeper();
                b.cell = a.cell;
                b.way = a.way;
                b.wakes = a.wakes;
                b.age = a.age;
                t.sleepers.add(b);
            }
            return t;
        }
    }

    Town now = new Town();
    Town kept = null;
    final List<Rule> rules = new ArrayList<>();
    final List<Integer> tape = new ArrayList<>();
    final Object[] sheets = new Object[4];

    Plain() {
        for (char c : "sees 1 ; worth 0 ; sleep 23 - minute ;".toCharArray()) {
            tape.add((int) c);
        }
        text();
    }

    // ---- kinds

    static int where(Thing t, int m) {
        int walks = t.home / 6 * 6 + (t.home % 6 + m / (t.number + 1)) % 6;
        return switch (t.kind) {
            case 1 -> walks;
            case 3 -> m % 2 != 0 ? t.home : walks;
            default -> t.home;
        };
    }

    static boolean shows(Thing t, int far, int f) {
        return switch (t.kind) {
            case 0, 1 -> far <= 9 - f;
            case 2 -> far == 1;
            case 3 -> far <= 9 - f && far != 1;
            case 4 -> far == 1 || far == t.number;
            default -> f < 9;
        };
    }

    static int worth(Thing t, int v, int far) {
        int w = switch (t.kind) {
            case 0 -> v;
            case 1 -> v + far;
            case 2 -> v / 2;
            case 3 -> 2 * (v + far);
            case 4 -> v / 2 + t.number;
            default -> v - far;
        };
        return w < 0 ? 0 : w;
    }

    // ---- mornings of any town

    static int line(int cell, int way, int far) {
        int y = cell / 6 + (way == 0 ? -far : way == 2 ? far : 0);
        int x = cell % 6 + (way == 1 ? far : way == 3 ? -far : 0);
        return y < 0 || y > 5 || x < 0 || x > 5 ? -1 : 6 * y + x;
    }

    static boolean seesInto(Town t, Sleeper s, int far) {
        boolean noneHigher = true;
        boolean higherThanAll = true;
        int it = t.high[line(s.cell, s.way, far)];
        for (int k = 1; k < far; k++) {
            int between = t.high[line(s.cell, s.way, k)];
            noneHigher &= between <= t.high[s.cell];
            higherThanAll &= it > between;
        }
        return noneHigher || higherThanAll;
    }

    int[] names(Town t, int one, int thing, int far) {
        Sleeper s = t.sleepers.get(one);
        return new int[] {far, s.wakes, t.fog, t.high[where(t.things.get(thing), s.wakes)], one, thing};
    }

    /** Rows of a thing and how far it is. */
    List<int[]> seen(Town t, int one) {
        Sleeper s = t.sleepers.get(one);
        List<int[]> all = new ArrayList<>();
        for (int i = 0; i < t.things.size(); i++) {
            for (int far = 1; far < 6; far++) {
                Thing thing = t.things.get(i);
                int cell = line(s.cell, s.way, far);
                if (cell >= 0 && where(thing, s.wakes) == cell && seesInto(t, s, far)
                        && shows(thing, far, t.fog)
                        && rules.get(t.rule).sees.applyAsInt(names(t, one, i, far)) != 0) {
                    all.add(new int[] {i, far});
                }
            }
        }
        all.sort((a, b) -> a[1] != b[1] ? a[1] - b[1] : a[0] - b[0]);
        return all;
    }

    /** For each sleeper the thing and how far it is, or null. */
    int[][] morning(Town t) {
        int n = t.sleepers.size();
        List<Integer> order = new ArrayList<>();
        for (int i = 0; i < n; i++) {
            order.add(i);
        }
        order.sort((a, b) -> {
            Sleeper p = t.sleepers.get(a);
            Sleeper q = t.sleepers.get(b);
            return p.wakes != q.wakes ? p.wakes - q.wakes : p.age != q.age ? q.age - p.age : a - b;
        });
        int[][] has = new int[n][];
        for (int one : order) {
            for (int[] s : seen(t, one)) {
                boolean free = true;
                for (int[] h : has) {
                    free &= h == null || h[0] != s[0];
                }
                if (free) {
                    has[one] = s;
                    break;
                }
            }
        }
        return has;
    }

    static int bounded(int v, int low, int high) {
        return v < low ? low : v > high ? high : v;
    }

    int[] lefts(Town t) {
        int[][] has = morning(t);
        int[] left = new int[has.length];
        Rule r = rules.get(t.rule);
        for (int i = 0; i < left.length; i++) {
            int[] n = {0, t.sleepers.get(i).wakes, 0, 0, i, 0};
            left[i] = -bounded(r.sleep.applyAsInt(n), 0, 99);
            if (has[i] != null) {
                Thing g = t.things.get(has[i][0]);
                int comes = r.worth.applyAsInt(names(t, i, has[i][0], has[i][1]));
                left[i] += worth(g, g.price + bounded(comes, -99, 99), has[i][1]);
            }
        }
        return left;
    }

    int all(Town t) {
        return Arrays.stream(lefts(t)).sum();
    }

    int[] whoHas(Town t) {
        int[][] has = morning(t);
        int[] w = new int[has.length];
        for (int i = 0; i < w.length; i++) {
            w[i] = has[i] == null ? -1 : has[i][0];
        }
        return w;
    }

    // ---- the face

    boolean isThing(int v) {
        return v >= 0 && v < now.things.size();
    }

    boolean isSleeper(int v) {
        return v >= 0 && v < now.sleepers.size();
    }

    int town(int what, int of, int v) {
        if (what < 0 || what > 1 || v < 0 || v > 9 || what == 0 && (of < 0 || of > 35)) {
            return -2;
        }
        int was = what == 0 ? now.high[of] : now.fog;
        if (what == 0) {
            now.high[of] = v;
        } else {
            now.fog = v;
        }
        return was;
    }

    int high(int cell) {
        return cell < 0 || cell > 35 ? -2 : now.high[cell];
    }

    int thing(int kind, int home, int what) {
        if (kind < 0 || kind > 5 || home < 0 || home > 35 || what < 0 || what > 999) {
            return -2;
        }
        if (now.things.size() == 6) {
            return -4;
        }
        Thing t = new Thing();
        t.kind = kind;
        t.home = home;
        t.price = what / 10;
        t.number = what % 10;
        now.things.add(t);
        return now.things.size() - 1;
    }

    int sleeper(int cell, int what, int age) {
        if (cell < 0 || cell > 35 || what < 0 || what > 239 || what % 10 > 3 || age < 0 || age > 99) {
            return -2;
        }
        if (now.sleepers.size() == 5) {
            return -4;
        }
        Sleeper s = new Sleeper();
        s.cell = cell;
        s.wakes = what / 10;
        s.way = what % 10;
        s.age = age;
        now.sleepers.add(s);
        return now.sleepers.size() - 1;
    }

    int set(int what, int of, int v) {
        int[] most = {35, 99, 9, 35, 3, 23};
        if (what < 0 || what > 5 || !(what < 3 ? isThing(of) : isSleeper(of)) || v < 0 || v > most[what]) {
            return -2;
        }
        int was = told(of, what < 3 ? what : what + 1);
        switch (what) {
            case 0 -> now.things.get(of).home = v;
            case 1 -> now.things.get(of).price = v;
            case 2 -> now.things.get(of).number = v;
            case 3 -> now.sleepers.get(of).cell = v;
            case 4 -> now.sleepers.get(of).way = v;
            default -> now.sleepers.get(of).wakes = v;
        }
        return was;
    }

    int told(int of, int what) {
        if (what < 0 || what > 7 || !(what < 4 ? isThing(of) : isSleeper(of))) {
            return -2;
        }
        return switch (what) {
            case 0 -> now.things.get(of).home;
            case 1 -> now.things.get(of).price;
            case 2 -> now.things.get(of).number;
            case 3 -> now.things.get(of).kind;
            case 4 -> now.sleepers.get(of).cell;
            case 5 -> now.sleepers.get(of).way;
            case 6 -> now.sleepers.get(of).wakes;
            default -> now.sleepers.get(of).age;
        };
    }

    int where(int thing, int minute) {
        return !isThing(thing) || minute < 0 || minute > 23 ? -2 : where(now.things.get(thing), minute);
    }

    int feed(int letter) {
        if (letter < 0 || letter > 255) {
            return -2;
        }
        if (tape.size() == 160) {
            return -4;
        }
        tape.add(letter);
        return tape.size();
    }

    int text() {
        if (rules.size() == 6) {
            return -4;
        }
        List<Integer> read = new ArrayList<>(tape);
        tape.clear();
        try {
            rules.add(new PlainText(read).whole());
            return rules.size() - 1;
        } catch (PlainText.Fault f) {
            return -100 - f.place;
        }
    }

    int force(int text) {
        if (text < 0 || text >= rules.size()) {
            return -2;
        }
        int was = now.rule;
        now.rule = text;
        return was;
    }

    int seen(int sleeper, int i) {
        if (!isSleeper(sleeper) || i < 0 || i > 5) {
            return -2;
        }
        List<int[]> all = seen(now, sleeper);
        return i < all.size() ? all.get(i)[0] : -1;
    }

    int has(int sleeper) {
        return isSleeper(sleeper) ? whoHas(now)[sleeper] : -2;
    }

    int whose(int thing) {
        if (!isThing(thing)) {
            return -2;
        }
        int[] has = whoHas(now);
        for (int i = 0; i < has.length; i++) {
            if (has[i] == thing) {
                return i;
            }
        }
        return -1;
    }

    int left(int sleeper) {
        return sleeper == -1 ? all(now) : isSleeper(sleeper) ? lefts(now)[sleeper] : -100000;
    }

    int[] best(int sleeper, int sort) {
        int[] best = null;
        for (int m = 0; m < 24; m++) {
            for (int w = 0; w < 4; w++) {
                Town t = now.twin();
                Sleeper s = t.sleepers.get(sleeper);
                if (sort == 0 && w != s.way || sort == 1 && m != s.wakes) {
                    continue;
                }
                s.way = w;
                s.wakes = m;
                int left = lefts(t)[sleeper];
                if (best == null || left > best[2]) {
                    best = new int[] {m, w, left};
                }
            }
        }
        return best;
    }

    int best(int sleeper, int sort, int what) {
        if (!isSleeper(sleeper) || sort < 0 || sort > 2 || what < 0 || what > 2) {
            return -100000;
        }
        return best(sleeper, sort)[what];
    }

    int turn(int sleeper) {
        if (!isSleeper(sleeper)) {
            return -100000;
        }
        int[] best = best(sleeper, 2);
        now.sleepers.get(sleeper).wakes = best[0];
        now.sleepers.get(sleeper).way = best[1];
        return left(sleeper);
    }

    int rest() {
        for (int i = 0; i < now.sleepers.size(); i++) {
            if (best(i, 2)[2] > left(i)) {
                return 0;
            }
        }
        return 1;
    }

    int beds(int what) {
        if (what < 0 || what > 1) {
            return -100000;
        }
        int n = now.sleepers.size();
        int most = Integer.MIN_VALUE;
        int digits = 0;
        for (int code = 0; code < 1 << 2 * n; code++) {
            Town t = now.twin();
            String base4 = Integer.toString(code | 1 << 2 * n, 4).substring(1);
            for (int i = 0; i < n; i++) {
                t.sleepers.get(i).way = base4.charAt(i) - '0';
            }
            int all = all(t);
            if (all > most) {
                most = all;
                digits = n == 0 ? 0 : Integer.parseInt(base4);
            }
        }
        return what == 0 ? most : digits;
    }

    int wall(int sleeper, int other) {
        if (!isSleeper(sleeper) || !isSleeper(other) || sleeper == other) {
            return -2;
        }
        int[] before = lefts(now);
        int found = -1;
        int least = 0;
        for (int c = 0; c < 36; c++) {
            Town t = now.twin();
            t.high[c] = 9;
            int[] then = lefts(t);
            if (then[sleeper] >= before[sleeper] && then[other] < before[other]
                    && (found < 0 || then[other] < least)) {
                found = c;
                least = then[other];
            }
        }
        return found;
    }

    int fell(int sleeper) {
        if (!isSleeper(sleeper)) {
            return -2;
        }
        int before = lefts(now)[sleeper];
        int found = -1;
        int most = 0;
        for (int c = 0; c < 36; c++) {
            Town t = now.twin();
            t.high[c] = 0;
            int then = lefts(t)[sleeper];
            if (then > before && (found < 0 || then > most)) {
                found = c;
                most = then;
            }
        }
        return found;
    }

    static int size(Object sheet) {
        return java.lang.reflect.Array.getLength(sheet);
    }

    static int item(Object sheet, int i) {
        return ((Number) java.lang.reflect.Array.get(sheet, i)).intValue();
    }

    static int sort(Object sheet) {
        return sheet instanceof byte[] ? 0 : sheet instanceof short[] ? 1 : 2;
    }

    boolean isTold(Object sheet, Town t) {
        int[] has = whoHas(t);
        for (int i = 0; i < has.length; i++) {
            if (has[i] != item(sheet, i)) {
                return false;
            }
        }
        return true;
    }

    int tale(int sheet) {
        return sheets[sheet] == null ? -11 : size(sheets[sheet]) != now.sleepers.size() ? -2 : 0;
    }

    int turned(int sheet, int what) {
        if (sheet < 0 || sheet > 3 || what < 0 || what > 1) {
            return -2;
        }
        if (tale(sheet) != 0) {
            return tale(sheet);
        }
        List<Integer> found = new ArrayList<>();
        for (int i = 0; i < now.sleepers.size(); i++) {
            for (int w = 0; w < 4; w++) {
                Town t = now.twin();
                t.sleepers.get(i).way = w;
                if (w != now.sleepers.get(i).way && isTold(sheets[sheet], t)) {
                    found.add(10 * i + w);
                }
            }
        }
        return what == 0 ? found.size() : found.isEmpty() ? -1 : found.get(0);
    }

    int woke(int sheet, int sleeper) {
        if (sheet < 0 || sheet > 3 || !isSleeper(sleeper)) {
            return -2;
        }
        if (tale(sheet) != 0) {
            return tale(sheet);
        }
        int bits = 0;
        for (int m = 0; m < 24; m++) {
            Town t = now.twin();
            t.sleepers.get(sleeper).wakes = m;
            bits += isTold(sheets[sheet], t) ? 1 << m : 0;
        }
        return bits;
    }

    int judge(int sheet) {
        if (sheet < 0 || sheet > 3) {
            return -2;
        }
        if (tale(sheet) != 0) {
            return tale(sheet);
        }
        int[] has = whoHas(now);
        for (int i = 0; i < has.length; i++) {
            if (has[i] != item(sheets[sheet], i)) {
                return i;
            }
        }
        return -1;
    }

    Town drawnTown(int seed) {
        Town t = now.twin();
        int z = seed * 1103515245 + 12345;
        t.fog = (z >>> 10) % 10;
        return t;
    }

    int drawn(int seed) {
        return all(drawnTown(seed));
    }

    long chance(int seed, int n, int sleeper, int part) {
        if (n < 1 || n > 20 || !isSleeper(sleeper) || part < 0 || part > 1) {
            return -4611686018427387904L;
        }
        int hits = 0;
        for (int i = 0; i < n; i++) {
            hits += whoHas(drawnTown(seed + i))[sleeper] >= 0 ? 1 : 0;
        }
        int a = hits;
        int b = n;
        while (a != 0) {
            int c = b % a;
            b = a;
            a = c;
        }
        return part == 0 ? hits / b : n / b;
    }

    int image() {
        kept = now.twin();
        return kept.sleepers.size();
    }

    int back() {
        if (kept == null) {
            return -3;
        }
        now = kept.twin();
        return now.sleepers.size();
    }

    int count(int what) {
        return switch (what) {
            case 0 -> now.sleepers.size();
            case 1 -> now.things.size();
            case 2 -> (int) Arrays.stream(now.high).filter(h -> h > 0).count();
            case 3 -> now.fog;
            case 4 -> rules.size();
            case 5 -> tape.size();
            case 6 -> now.rule;
            default -> -2;
        };
    }

    int sheet(int sheet, int sort, int n) {
        if (sheet < 0 || sheet > 3 || sort < -1 || sort > 2 || sort >= 0 && n > 40) {
            return -2;
        }
        if (sort >= 0 && n < 0) {
            return -14;
        }
        sheets[sheet] = switch (sort) {
            case -1 -> null;
            case 0 -> new byte[n];
            case 1 -> new short[n];
            default -> new int[n];
        };
        return 1;
    }

    int cell(int sheet, int i, int v) {
        if (sheet < 0 || sheet > 3) {
            return -2;
        }
        if (sheets[sheet] == null) {
            return -11;
        }
        if (i < 0 || i >= size(sheets[sheet])) {
            return -12;
        }
        if (sheets[sheet] instanceof byte[] b) {
            b[i] = (byte) v;
        } else if (sheets[sheet] instanceof short[] s) {
            s[i] = (short) v;
        } else {
            ((int[]) sheets[sheet])[i] = v;
        }
        return 1;
    }

    int copy(int sheet, int i, int other, int j, int n) {
        if (sheet < 0 || sheet > 3 || other < 0 || other > 3) {
            return -2;
        }
        if (sheets[sheet] == null || sheets[other] == null) {
            return -11;
        }
        if (sort(sheets[sheet]) != sort(sheets[other])) {
            return -13;
        }
        if (i < 0 || j < 0 || n < 0 || (long) i + n > size(sheets[sheet])
                || (long) j + n > size(sheets[other])) {
            return -12;
        }
        int[] were = new int[n];
        for (int k = 0; k < n; k++) {
            were[k] = item(sheets[sheet], i + k);
        }
        for (int k = 0; k < n; k++) {
            cell(other, j + k, were[k]);
        }
        return n;
    }

    int heights(int sheet, int sort, int from, int n) {
        if (sheet < 0 || sheet > 3 || sort < 0 || sort > 2 || n < 0 || n > 20) {
            return -2;
        }
        if (sheets[sheet] == null) {
            return -11;
        }
        if (sort(sheets[sheet]) != sort) {
            return -13;
        }
        int so = 0;
        for (long k = from; k < from + 2L * n; k += 2) {
            if (k < 0 || k + 1 >= size(sheets[sheet])) {
                return -12;
            }
            so += town(0, item(sheets[sheet], (int) k), item(sheets[sheet], (int) k + 1)) >= 0 ? 1 : 0;
        }
        return so;
    }

    int taken(int thing, int k) {
        if (k < 0 || k > 5) {
            return -2;
        }
        if (!isThing(thing)) {
            return -11;
        }
        int[] above = {-1, 0, 0, 1, 2, 0};
        for (int kind = now.things.get(thing).kind; kind >= 0; kind = above[kind]) {
            if (kind == k) {
                return now.things.get(thing).number;
            }
        }
        return -13;
    }
}
