import java.util.Random;

/** Long runs of calls, drawn by fixed seeds, on the class and on Plain: all answers are alike. */
public final class OracleTest {
    private static final int RUNS = 1000;
    private static final int CALLS = 512;
    private static final String[] WORDS = {
        "far", "minute", "fog", "high", "one", "thing", "sees", "worth", "sleep", "or", "and",
        "not", "(", ")", ";", "+", "-", "*", "<", "=", "7", "12345", "x", "#", " ", "\n", "0042",
    };

    private final Random random;
    private final FirstSeen x = new FirstSeen();
    private final Plain p = new Plain();
    private final int run;
    private int calls = 0;

    private OracleTest(int run) {
        this.run = run;
        random = new Random(9000 + run);
    }

    public static void main(String[] args) {
        for (int run = 0; run < RUNS; run++) {
            OracleTest t = new OracleTest(run);
            t.settle();
            while (t.calls < CALLS) {
                t.step();
            }
        }
        Due.end("OracleTest");
    }

    private void same(String call, long got, long due) {
        calls++;
        Due.is("run " + run + ", call " + calls + ": " + call, got, due);
    }

    /** 0 .. bound - 1, or seldom a number that lies outside. */
    private int upTo(int bound) {
        switch (random.nextInt(60)) {
            case 0: return -1;
            case 1: return bound;
            case 2: return random.nextInt();
            default: return random.nextInt(bound);
        }
    }

    private void settle() {
        boolean full = random.nextInt(5) > 0;
        for (int i = full ? 7 : random.nextInt(5); i > 0; i--) {
            addThing();
        }
        for (int i = full ? 3 + random.nextInt(4) : random.nextInt(4); i > 0; i--) {
            addSleeper();
        }
        for (int i = random.nextInt(12); i > 0; i--) {
            build();
        }
        for (int sheet = 0; full && sheet < 4; sheet++) {
            int sort = sheet % 3;
            same("sheet " + sheet, x.sheet(sheet, sort, 40), p.sheet(sheet, sort, 40));
        }
        if (random.nextBoolean()) {
            tellRule();
        }
    }

    private void step() {
        int what = random.nextInt(100);
        if (what < 16) {
            change();
        } else if (what < 17) {
            tellRule();
        } else if (what < 45) {
            ask();
        } else if (what < 80) {
            wish();
        } else {
            host();
        }
    }

    private void addThing() {
        // Few rows and columns, so that beds and things often lie in one line.
        int a = upTo(6), b = random.nextInt(2) * 6 + upTo(6), c = upTo(1000);
        same("thing " + a + " " + b + " " + c, x.thing(a, b, c), p.thing(a, b, c));
    }

    private void addSleeper() {
        int a = random.nextInt(2) * 6 + upTo(6), b = upTo(24) * 10 + upTo(4), c = upTo(3);
        same("sleeper " + a + " " + b + " " + c, x.sleeper(a, b, c), p.sleeper(a, b, c));
    }

    private void build() {
        int a = upTo(random.nextBoolean() ? 12 : 36), b = upTo(10);
        same("town 0 " + a + " " + b, x.town(0, a, b), p.town(0, a, b));
    }

    private void change() {
        switch (random.nextInt(8)) {
            case 0: addThing(); break;
            case 1: addSleeper(); break;
            case 2: build(); break;
            case 3: {
                int a = upTo(2), b = upTo(36), c = upTo(10);
                same("town " + a + " " + b + " " + c, x.town(a, b, c), p.town(a, b, c));
                break;
            }
            case 4: same("image", x.image(), p.image()); break;
            case 5: same("back", x.back(), p.back()); break;
            default: {
                int a = upTo(6), b = upTo(a < 3 ? 6 : 5);
                int c = upTo(new int[] {18, 100, 10, 18, 4, 24, 9, 9}[Math.floorMod(a, 8)]);
                same("set " + a + " " + b + " " + c, x.set(a, b, c), p.set(a, b, c));
            }
        }
    }

    // ---- texts

    private void tellRule() {
        String text = "sees " + expression(3) + ";worth " + expression(3) + ";sleep " + expression(3) + " ;";
        int spoils = random.nextInt(3) == 0 ? 1 + random.nextInt(2) : 0;
        for (int i = 0; i < spoils; i++) {
            int at = random.nextInt(text.length() + 1);
            int to = Math.min(text.length(), at + random.nextInt(4));
            text = text.substring(0, at) + WORDS[random.nextInt(WORDS.length)] + text.substring(to);
        }
        if (text.length() > 100 && random.nextInt(4) > 0) {
            return;
        }
        for (int i = 0; i < text.length(); i++) {
            int letter = random.nextInt(2000) == 0 ? random.nextInt(300) - 20 : text.charAt(i);
            same("feed " + letter, x.feed(letter), p.feed(letter));
        }
        same("text of " + text, x.text(), p.text());
        int a = upTo(p.rules.size());
        same("force " + a, x.force(a), p.force(a));
    }

    private String expression(int deep) {
        String blank = random.nextInt(3) == 0 ? " " : "";
        if (deep == 0 || random.nextInt(4) == 0) {
            return random.nextInt(3) == 0 ? "" + random.nextInt(random.nextInt(3) == 0 ? 10000 : 30)
                    : WORDS[random.nextInt(6)];
        }
        String a = expression(deep - 1);
        switch (random.nextInt(9)) {
            case 0: return "(" + a + ")";
            case 1: return "-" + blank + a;
            case 2: return "not " + a;
            case 3: return a + " or " + expression(deep - 1);
            case 4: return a + " and " + expression(deep - 1);
            case 5: return a + blank + "<" + expression(deep - 1);
            case 6: return a + "=" + blank + expression(deep - 1);
            case 7: return a + (random.nextBoolean() ? "+" : "-") + expression(deep - 1);
            default: return a + "*" + blank + expression(deep - 1);
        }
    }

    // ---- questions

    private void ask() {
        int a = upTo(5), b = upTo(6);
        switch (random.nextInt(9)) {
            case 0: same("high " + a, x.high(a * 7), p.high(a * 7)); break;
            case 1: same("told " + a + " " + b, x.told(a, b + 2), p.told(a, b + 2)); break;
            case 2: {
                int m = upTo(24);
                same("where " + b + " " + m, x.where(b, m), p.where(b, m));
                break;
            }
            case 3: same("seen " + a + " " + b, x.seen(a, b), p.seen(a, b)); break;
            case 4: same("seen " + a + " 0", x.seen(a, 0), p.seen(a, 0)); break;
            case 5: same("has " + a, x.has(a), p.has(a)); break;
            case 6: same("whose " + b, x.whose(b), p.whose(b)); break;
            case 7: same("left " + a, x.left(a), p.left(a)); break;
            default: {
                int c = upTo(7);
                same("count " + c, x.count(c), p.count(c));
            }
        }
    }

    private void wish() {
        int a = upTo(5), b = upTo(5), c = upTo(3), d = upTo(2), seed = random.nextInt();
        switch (random.nextInt(60)) {
            case 0: case 1: case 2: case 3: case 4: case 5:
                same("best " + a + " " + c + " " + d, x.best(a, c, d), p.best(a, c, d)); break;
            case 6: case 7: case 8:
                same("best " + a + " " + c + " 2", x.best(a, c, 2), p.best(a, c, 2)); break;
            case 9: case 10:
                same("turn " + a, x.turn(a), p.turn(a)); break;
            case 11: case 12:
                same("rest", x.rest(), p.rest()); break;
            case 13:
                same("beds " + d, x.beds(d), p.beds(d)); break;
            case 14: case 15: case 16: case 17: case 18: case 19:
                same("wall " + a + " " + b, x.wall(a, b), p.wall(a, b)); break;
            case 20: case 21: case 22: case 23: case 24:
                same("fell " + a, x.fell(a), p.fell(a)); break;
            case 25: case 26: case 27: case 28:
                same("drawn " + seed, x.drawn(seed), p.drawn(seed)); break;
            case 29: case 30: case 31: case 32: {
                int n = upTo(22);
                same("chance " + seed + " " + n + " " + a + " " + d, x.chance(seed, n, a, d),
                        p.chance(seed, n, a, d));
                break;
            }
            case 33: case 34: case 35: case 36: case 37: case 38: case 39: case 40: case 41:
                same("fell " + a, x.fell(a), p.fell(a)); break;
            case 42: case 43: case 44: case 45:
                same("drawn " + seed % 9, x.drawn(seed % 9), p.drawn(seed % 9)); break;
            default: tell(a, b, d);
        }
    }

    /** A sheet that is often true of the town with one bed turned or one sleeper up otherwise. */
    private void tell(int a, int b, int d) {
        int sheet = random.nextInt(3) == 0 ? upTo(4) : 0;
        int n = p.now.sleepers.size();
        int sort = random.nextInt(3);
        same("sheet " + sheet, x.sheet(sheet, sort, n), p.sheet(sheet, sort, n));
        Plain.Town t = p.now.twin();
        if (n > 0 && random.nextBoolean()) {
            t.sleepers.get(random.nextInt(n)).way = random.nextInt(4);
        } else if (n > 0) {
            t.sleepers.get(random.nextInt(n)).wakes = random.nextInt(24);
        }
        int[] has = p.whoHas(t);
        for (int i = 0; i < n; i++) {
            int v = random.nextInt(20) == 0 ? random.nextInt(6) - 1 : has[i];
            same("cell", x.cell(sheet, i, v), p.cell(sheet, i, v));
        }
        same("judge " + sheet, x.judge(sheet), p.judge(sheet));
        same("turned " + sheet + " 0", x.turned(sheet, 0), p.turned(sheet, 0));
        same("turned " + sheet + " " + d, x.turned(sheet, d), p.turned(sheet, d));
        same("woke " + sheet + " " + a, x.woke(sheet, a), p.woke(sheet, a));
        same("woke " + sheet + " " + b, x.woke(sheet, b), p.woke(sheet, b));
    }

    private void host() {
        int a = upTo(4), b = upTo(4), c = upTo(40), d = upTo(40);
        switch (random.nextInt(8)) {
            case 0: if (random.nextInt(3) == 0) {
                int sort = random.nextInt(8) == 0 ? random.nextInt(6) - 2 : random.nextInt(3);
                int n = random.nextInt(4) == 0 ? random.nextInt(50) - 4 : 36 + random.nextInt(5);
                same("sheet " + a + " " + sort + " " + n, x.sheet(a, sort, n), p.sheet(a, sort, n));
            }
                break;
            case 1: case 2: case 3: {
                int v = random.nextInt(10) == 0 ? random.nextInt() : random.nextInt(11);
                same("cell " + a + " " + c + " " + v, x.cell(a, c, v), p.cell(a, c, v));
                break;
            }
            case 4: {
                int n = random.nextInt(12) - 1;
                same("copy", x.copy(a, c / 2, b, d / 2, n), p.copy(a, c / 2, b, d / 2, n));
                break;
            }
            case 5: case 6: {
                int sort = a >= 0 && a < 4 && p.sheets[a] != null && random.nextInt(4) > 0
                        ? Plain.sort(p.sheets[a]) : upTo(3);
                int n = random.nextInt(3) == 0 ? random.nextInt(23) - 1 : random.nextInt(3);
                same("heights " + a + " " + sort + " " + c + " " + n, x.heights(a, sort, c, n),
                        p.heights(a, sort, c, n));
                break;
            }
            default: {
                int k = upTo(6), t = upTo(6);
                same("taken " + t + " " + k, x.taken(t, k), p.taken(t, k));
            }
        }
    }
}
