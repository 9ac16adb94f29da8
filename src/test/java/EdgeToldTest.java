/** Sentences of "Terms", part 2, on what is told, drawn, kept and counted, and promises 22 to 29. */
public final class EdgeToldTest {
    private static final int NONE = FirstSeen.NONE, BAD = FirstSeen.BAD, STATE = FirstSeen.STATE;
    private static final int NOTHING = -11;
    private static final int MIN = Integer.MIN_VALUE, MAX = Integer.MAX_VALUE;

    public static void main(String[] args) {
        sizes();
        whatATaleHolds();
        turned();
        turnedRefusals();
        woke();
        wokeRefusals();
        judge();
        judgeRefusals();
        drawn();
        chance();
        chanceRefusals();
        image();
        whatAnImageKeeps();
        back();
        count();
        countRefusals();
        Due.end("EdgeToldTest");
    }

    /** Two sleepers, two things, a tale of what they have in sheet 0, one too long in 1, 2 missing. */
    private static void two(FirstSeen x) {
        x.thing(0, 15, 300);
        x.thing(2, 13, 200);
        x.sleeper(14, 51, 9);
        x.sleeper(14, 63, 9);
        x.image();
        x.town(0, 30, 4);
        x.town(1, 0, 2);
        x.sheet(0, 1, 2);
        x.cell(0, 1, 1);
        x.sheet(1, 0, 3);
        x.sheet(3, 2, 1);
        for (char c : "sees 1;worth 9;sleep 9;".toCharArray()) {
            x.feed(c);
        }
    }

    private static void sizes() {
        Due.sentence(22, "BAD: its size isn't how many SLEEPERS there are");
        FirstSeen x = new FirstSeen();
        for (int n = 0; n <= 5; n++) {
            for (int size = 0; size <= 7; size++) {
                x.sheet(3, 0, size);
                for (int i = 0; i < size; i++) {
                    x.cell(3, i, -1);
                }
                String call = size + " numbers of " + n;
                boolean fits = size == n;
                Due.is("turned " + call, x.turned(3, 0), fits ? 3 * n : BAD);
                Due.is("turned, the first, " + call, x.turned(3, 1), !fits ? BAD : n == 0 ? NONE : 0);
                Due.is("judge " + call, x.judge(3), fits ? NONE : BAD);
                if (n > 0) {
                    Due.is("woke " + call, x.woke(3, n - 1), fits ? 16777215 : BAD);
                }
                Due.is("woke, no such SLEEPER, " + call, x.woke(3, n), BAD);
            }
            x.sleeper(14, 121, 0);
            x.sheet(3, 0, 40);
            Due.is("40 numbers", x.judge(3), BAD);
        }
    }

    private static void whatATaleHolds() {
        Due.sentence(24, "A SHEET tells for each SLEEPER, 0, 1, .., which THING it HAS (-1: none).");
        FirstSeen x = new FirstSeen();
        x.sleeper(0, 1, 0);
        for (int sort = 0; sort < 3; sort++) {
            for (int v : new int[] {0, 1, 5, 6, -2, 127, 128, 1000, MAX - 1}) {
                Due.sheet(x, 0, sort, v);
                Due.is("none, told " + v, x.judge(0), (sort == 0 ? (byte) v : sort == 1 ? (short) v : v) == -1 ? NONE : 0);
                Due.is("none ever, told " + v, x.woke(0, 0), x.judge(0) == NONE ? 16777215 : 0);
            }
            Due.sheet(x, 0, sort, -1);
            Due.is("none, told so", x.judge(0), NONE);
        }
        for (int t = 0; t < 6; t++) {
            x.thing(0, 5 - t % 5, 0);
        }
        x.set(0, 5, 1);
        x.set(0, 4, 35);
        for (int v = -1; v < 8; v++) {
            Due.sheet(x, 0, 2, v);
            Due.is("the last THING, told " + v, x.judge(0), v == 5 ? NONE : 0);
        }
    }

    private static void turned() {
        Due.sentence(22, "TURNED: SLEEPERS, and other WAYS than their beds stand, by which, did that one bed stand so, all would be as told: how many; the first, by SLEEPERS, then WAYS (10 times the SLEEPER, and the WAY; NONE).");
        // Five who see nothing: each could have been turned in each of its three other WAYS.
        for (int way = 0; way < 4; way++) {
            FirstSeen x = new FirstSeen();
            for (int s = 0; s < 5; s++) {
                x.sleeper(14, way, 0);
            }
            Due.sheet(x, 0, 0, -1, -1, -1, -1, -1);
            Due.is("all, standing " + way, x.turned(0, 0), 15);
            Due.is("the first, standing " + way, x.turned(0, 1), way == 0 ? 1 : 0);
            Due.sheet(x, 0, 0, -1, -1, -1, -1, 0);
            Due.is("none, standing " + way, x.turned(0, 0), 0);
            Due.is("no first, standing " + way, x.turned(0, 1), NONE);
        }
        // The last one alone, in its last WAY alone, or as it stands, which does not count.
        FirstSeen x = new FirstSeen();
        x.thing(0, 13, 0);
        for (int s = 0; s < 5; s++) {
            x.sleeper(s < 4 ? 35 : 14, 12, 0);
        }
        Due.sheet(x, 0, 1, -1, -1, -1, -1, 0);
        Due.is("one", x.turned(0, 0), 1);
        Due.is("the last of all", x.turned(0, 1), 43);
        x.set(4, 4, 3);
        Due.is("others, as it stands so", x.turned(0, 0), 12);
        Due.is("the first of the others", x.turned(0, 1), 0);
        Due.sheet(x, 0, 1, -1, -1, -1, -1, -1);
        Due.is("away from it", x.turned(0, 0), 3);
        Due.is("the first WAY away from it", x.turned(0, 1), 40);
        // One bed at a time: what needs two is none.
        FirstSeen y = new FirstSeen();
        y.thing(0, 13, 0);
        y.thing(0, 15, 0);
        y.sleeper(14, 0, 0);
        y.sleeper(14, 0, 0);
        Due.sheet(y, 0, 2, 1, 0);
        Due.is("two were turned", y.turned(0, 0), 0);
        Due.sheet(y, 0, 2, 1, -1);
        Due.is("one was", y.turned(0, 1), 1);
        Due.sheet(y, 0, 2, -1, 0);
        Due.is("the other was", y.turned(0, 1), 13);
        // The town as it is now counts, also if nothing was asked since it changed.
        y.set(0, 0, 20);
        y.set(4, 0, 2);
        Due.sheet(y, 0, 2, 0, 1);
        Due.is("the other was, where the first one HAS what came", y.turned(0, 0), 1);
        y.set(0, 0, 35);
        Due.is("it went again", y.turned(0, 0), 0);
    }

    private static void turnedRefusals() {
        Due.sentence(22, "TURNED: how many (what 0), the first (1). BAD: SHEET, what; -11; BAD: its size isn't how many SLEEPERS there are; NONE.");
        FirstSeen x = new FirstSeen();
        two(x);
        for (int wrong : new int[] {-1, 4, MIN, MAX}) {
            Due.is("SHEET " + wrong, x.turned(wrong, 0), BAD);
        }
        for (int wrong : new int[] {-1, 2, MIN, MAX}) {
            Due.is("what " + wrong, x.turned(0, wrong), BAD);
            Due.is("what " + wrong + " ahead of a missing one", x.turned(2, wrong), BAD);
        }
        for (int what = 0; what < 2; what++) {
            Due.is("missing, what " + what, x.turned(2, what), NOTHING);
            Due.is("too long, what " + what, x.turned(1, what), BAD);
            Due.is("too short, what " + what, x.turned(3, what), BAD);
        }
        Due.is("many", x.turned(0, 0), 0);
        Due.is("the first", x.turned(0, 1), NONE);
        Twin.unchanged("asking", EdgeToldTest::two, t -> t.turned(0, 0), 0);
        Twin.unchanged("no such SHEET", EdgeToldTest::two, t -> t.turned(4, 0), BAD);
        Twin.unchanged("what above", EdgeToldTest::two, t -> t.turned(0, 2), BAD);
        Twin.unchanged("missing", EdgeToldTest::two, t -> t.turned(2, 0), NOTHING);
        Twin.unchanged("too long", EdgeToldTest::two, t -> t.turned(1, 0), BAD);
    }

    private static void woke() {
        Due.sentence(23, "WOKE: MINUTES (bits) by which, did a told SLEEPER WAKE then, all would be as told.");
        for (int m = 0; m < 24; m++) {
            FirstSeen x = Due.ruledBy("sees minute=" + m + ";worth 0;sleep 0;");
            x.thing(0, 1, 0);
            x.sleeper(0, 10 * ((m + 5) % 24) + 1, 0);
            x.sleeper(35, 10 * ((m + 6) % 24) + 2, 0);
            Due.sheet(x, 0, 0, 0, -1);
            Due.is("MINUTE " + m + " alone", x.woke(0, 0), 1 << m);
            Due.is("not by the other one", x.woke(0, 1), 0);
            Due.sheet(x, 0, 0, -1, -1);
            Due.is("all but MINUTE " + m, x.woke(0, 0), 16777215 - (1 << m));
            Due.is("all by the other one", x.woke(0, 1), 16777215);
        }
        // Up to the MINUTE in which the other WAKES, or with it, if one goes ahead of it.
        for (int m = 0; m < 24; m++) {
            for (int older = -1; older <= 1; older++) {
                FirstSeen x = new FirstSeen();
                x.thing(0, 1, 0);
                x.sleeper(0, 10 * m + 1, 50);
                x.sleeper(0, 121, 50 + older);
                Due.sheet(x, 1, 1, -1, 0);
                int before = older == 1 ? (1 << m + 1) - 1 : (1 << m) - 1;
                Due.is("the second, " + older + ", against " + m, x.woke(1, 1), before);
                Due.sheet(x, 1, 1, 0, -1);
                Due.is("the second one later, " + older + ", than " + m, x.woke(1, 1), 16777215 - before);
            }
        }
    }

    private static void wokeRefusals() {
        Due.sentence(23, "WOKE. BAD: SHEET, SLEEPER; -11; BAD: its size isn't how many SLEEPERS there are.");
        FirstSeen x = new FirstSeen();
        two(x);
        for (int wrong : new int[] {-1, 4, MIN, MAX}) {
            Due.is("SHEET " + wrong, x.woke(wrong, 0), BAD);
        }
        for (int wrong : new int[] {NONE, 2, 5, MIN, MAX}) {
            Due.is("SLEEPER " + wrong, x.woke(0, wrong), BAD);
            Due.is("SLEEPER " + wrong + " ahead of a missing one", x.woke(2, wrong), BAD);
        }
        for (int s = 0; s < 2; s++) {
            Due.is("missing, " + s, x.woke(2, s), NOTHING);
            Due.is("too long, " + s, x.woke(1, s), BAD);
            Due.is("too short, " + s, x.woke(3, s), BAD);
            Due.is("as told, " + s, x.woke(0, s), 16777215);
        }
        FirstSeen y = new FirstSeen();
        y.sheet(0, 0, 0);
        Due.is("a sheet with no cells, no SLEEPERS", y.woke(0, 0), BAD);
        Twin.unchanged("asking", EdgeToldTest::two, t -> t.woke(0, 1), 16777215);
        Twin.unchanged("no such SHEET", EdgeToldTest::two, t -> t.woke(4, 0), BAD);
        Twin.unchanged("no such SLEEPER", EdgeToldTest::two, t -> t.woke(0, 2), BAD);
        Twin.unchanged("missing", EdgeToldTest::two, t -> t.woke(2, 0), NOTHING);
        Twin.unchanged("too short", EdgeToldTest::two, t -> t.woke(3, 0), BAD);
    }

    private static void judge() {
        Due.sentence(24, "JUDGED: the first SLEEPER for whom it is otherwise now; NONE.");
        FirstSeen x = new FirstSeen();
        for (int s = 0; s < 5; s++) {
            x.thing(0, s + 1, 0);
            x.sleeper(0, 1, 0);
        }
        for (int wrong = 0; wrong < 32; wrong++) {
            x.sheet(0, wrong % 3, 5);
            int first = NONE;
            for (int s = 4; s >= 0; s--) {
                boolean otherwise = (wrong >> s & 1) != 0;
                x.cell(0, s, otherwise ? -1 : s);
                first = otherwise ? s : first;
            }
            Due.is("otherwise for " + Integer.toBinaryString(wrong), x.judge(0), first);
        }
    }

    private static void judgeRefusals() {
        Due.sentence(24, "JUDGED. BAD: SHEET; -11; BAD: its size isn't how many SLEEPERS there are; NONE.");
        FirstSeen x = new FirstSeen();
        two(x);
        for (int wrong : new int[] {-1, 4, MIN, MAX}) {
            Due.is("SHEET " + wrong, x.judge(wrong), BAD);
        }
        Due.is("missing", x.judge(2), NOTHING);
        Due.is("too long", x.judge(1), BAD);
        Due.is("too short", x.judge(3), BAD);
        Due.is("as told", x.judge(0), NONE);
        FirstSeen y = new FirstSeen();
        for (int sheet = 0; sheet < 4; sheet++) {
            Due.is("missing, nobody, " + sheet, y.judge(sheet), NOTHING);
            y.sheet(sheet, sheet % 3, 0);
            Due.is("with no cells, nobody, " + sheet, y.judge(sheet), NONE);
            y.sheet(sheet, sheet % 3, 1);
            Due.is("with one cell, nobody, " + sheet, y.judge(sheet), BAD);
        }
        Twin.unchanged("asking", EdgeToldTest::two, t -> t.judge(0), NONE);
        Twin.unchanged("no such SHEET", EdgeToldTest::two, t -> t.judge(4), BAD);
        Twin.unchanged("missing", EdgeToldTest::two, t -> t.judge(2), NOTHING);
        Twin.unchanged("too long", EdgeToldTest::two, t -> t.judge(1), BAD);
    }

    // ---- DRAWN, IN n seeds

    /** The fog of a seed, reckoned in longs that do not wrap but are cut to 32 bits. */
    private static int fog(int seed) {
        long z = seed * 1103515245L + 12345 & 0xFFFFFFFFL;
        return (int) (z / 1024 % 10);
    }

    // By 643 and 798 the lowest ten bits of z are all 0, all 1: 1 less or more would be seen.
    private static final int[] SEEDS = {
        0, 1, 2, -1, -2, 5, -77, 643, 798, 1 << 16, 1 << 30, MIN, MIN + 1, MAX, MAX - 1
    };

    private static void drawn() {
        Due.sentence(25, "DRAWN by a SEED: z = SEED * 1103515245 + 12345 (an int): were FOG (z >>> 10) % 10: ALL LEFT.");
        FirstSeen x = Due.ruledBy("sees 1;worth fog*2;sleep 0;");
        x.thing(2, 1, 0);
        x.sleeper(0, 1, 0);
        int fogs = 0;
        for (int seed : SEEDS) {
            // Half of twice the fog is what a PICTURE is worth then.
            Due.is("SEED " + seed, x.drawn(seed), fog(seed));
        }
        for (int seed = -100; seed < 100; seed++) {
            Due.is("SEED " + seed, x.drawn(seed), fog(seed));
            fogs |= 1 << x.drawn(seed);
        }
        Due.is("each FOG was drawn", fogs, 1023);
        FirstSeen y = new FirstSeen();
        y.thing(0, 5, 300);
        y.sleeper(0, 231, 0);
        y.town(1, 0, 9);
        for (int seed = 0; seed < 60; seed++) {
            Due.is("FAR 5, SEED " + seed, y.drawn(seed), fog(seed) <= 4 ? 30 : 0);
        }
        Due.is("FOG stays", y.count(3), 9);
        Due.is("nobody", new FirstSeen().drawn(MIN), 0);
        Twin.unchanged("asking", EdgeToldTest::two, t -> t.drawn(MAX), 30 + 10 - 18 - 17);
    }

    private static int hits(int seed, int n, int most) {
        int hits = 0;
        for (int i = 0; i < n; i++) {
            hits += fog(seed + i) <= most ? 1 : 0;
        }
        return hits;
    }

    private static void chance() {
        Due.sentence(26, "IN n seeds (1 .. 20), SEED and each 1 more (an int): of these those by which a SLEEPER HAS any.");
        // FAR 1 .. 5: seen in fogs up to 8 .. 4; a HILL up to 8, a PICTURE in all, none in none.
        for (int far = 1; far < 6; far++) {
            for (int seed : SEEDS) {
                FirstSeen x = new FirstSeen();
                x.thing(0, far, 0);
                x.sleeper(0, 1, 0);
                for (int n = 1; n <= 20; n++) {
                    int hits = hits(seed, n, 9 - far);
                    int by = gcd(hits, n);
                    Due.is(n + " from " + seed + ", above", x.chance(seed, n, 0, 0), hits / by);
                    Due.is(n + " from " + seed + ", below", x.chance(seed, n, 0, 1), n / by);
                }
            }
        }
        Due.sentence(26, "IN n seeds: part 0 above, 1 below the line, in lowest terms.");
        FirstSeen x = new FirstSeen();
        x.thing(2, 1, 0);
        x.sleeper(0, 1, 0);
        x.sleeper(0, 1, 0);
        for (int n = 1; n <= 20; n++) {
            Due.is("all of " + n + ", above", x.chance(7, n, 0, 0), 1);
            Due.is("all of " + n + ", below", x.chance(7, n, 0, 1), 1);
            Due.is("none of " + n + ", above", x.chance(7, n, 1, 0), 0);
            Due.is("none of " + n + ", below", x.chance(7, n, 1, 1), 1);
        }
        for (int fog = 0; fog < 10; fog++) {
            x.town(1, 0, fog);
            x.chance(7, 20, 0, 0);
            Due.is("FOG stays " + fog, x.count(3), fog);
            x.drawn(7);
            Due.is("FOG stays " + fog + ", drawn", x.count(3), fog);
        }
    }

    private static int gcd(int a, int b) {
        return b == 0 ? a : gcd(b, a % b);
    }

    private static void chanceRefusals() {
        Due.sentence(26, "NO: n, SLEEPER, part.");
        FirstSeen x = new FirstSeen();
        two(x);
        for (int wrong : new int[] {0, -1, 21, MIN, MAX}) {
            Due.is("n " + wrong, x.chance(0, wrong, 0, 0), FirstSeen.NO);
        }
        for (int wrong : new int[] {NONE, 2, 5, MIN, MAX}) {
            Due.is("SLEEPER " + wrong, x.chance(0, 1, wrong, 0), FirstSeen.NO);
        }
        for (int wrong : new int[] {-1, 2, MIN, MAX}) {
            Due.is("part " + wrong, x.chance(0, 1, 0, wrong), FirstSeen.NO);
        }
        Due.is("n 1", x.chance(0, 1, 0, 1), 1);
        Due.is("n 20", x.chance(0, 20, 1, 1), 1);
        Twin.unchanged("asking", EdgeToldTest::two, t -> t.chance(MAX, 20, 1, 0), 1);
        Twin.unchanged("n above", EdgeToldTest::two, t -> t.chance(0, 21, 0, 0), FirstSeen.NO);
        Twin.unchanged("no such SLEEPER", EdgeToldTest::two, t -> t.chance(0, 1, 2, 0), FirstSeen.NO);
        Twin.unchanged("no such part", EdgeToldTest::two, t -> t.chance(0, 1, 0, 2), FirstSeen.NO);
    }

    // ---- THE IMAGE

    private static void image() {
        Due.sentence(27, "AN IMAGE is kept: how many SLEEPERS.");
        FirstSeen x = new FirstSeen();
        for (int s = 0; s <= 5; s++) {
            Due.is("of " + s, x.image(), s);
            Due.is("again of " + s, x.image(), s);
            x.sleeper(s, 10 * s, s);
            x.town(0, s, s + 1);
            Due.is("back to " + s, x.back(), s);
            Due.is("so many", x.count(0), s);
            Due.is("all is flat behind " + s, x.count(2), s);
            x.sleeper(s, 10 * s, s);
            x.town(0, s, s + 1);
        }
        Due.is("the last image", x.back(), 5);
        Due.is("its heights", x.count(2), 5);
    }

    private static void whatAnImageKeeps() {
        Due.sentence(28, "AN IMAGE keeps how HIGH CELLS are, FOG, CELLS, WAYS, WAKES of SLEEPERS, HOMES, PRICES, NUMBERS of THINGS, THE RULE (SLEEPERS, THINGS that came since go).");
        for (int what = 0; what < 6; what++) {
            FirstSeen x = new FirstSeen();
            ruled(x);
            String was = Twin.now(x);
            for (int of = 0; of < 2; of++) {
                x.set(what, of, x.told(of, what < 3 ? what : what + 1) == 0 ? 1 : 0);
                Due.is("set " + what + " of " + of + " is laid back", x.back(), 2);
                Due.holds("to " + was + " from " + Twin.now(x), Twin.now(x).equals(was));
            }
        }
        FirstSeen x = new FirstSeen();
        ruled(x);
        String was = Twin.now(x);
        for (int c = 0; c < 36; c += 35) {
            x.town(0, c, 9);
            x.back();
            Due.holds("how HIGH " + c + " is", Twin.now(x).equals(was));
        }
        x.town(1, 0, 9);
        x.back();
        Due.holds("FOG", Twin.now(x).equals(was));
        x.force(2);
        x.back();
        Due.holds("THE RULE", Twin.now(x).equals(was));
        for (int i = 0; i < 4; i++) {
            x.thing(i, i, i);
            x.sleeper(i, i, i);
        }
        x.back();
        Due.holds("who came since", Twin.now(x).equals(was));
        Due.is("the THING that came is none", x.told(2, 0), BAD);
        Due.is("the SLEEPER that came is none", x.told(2, 4), BAD);
        // TEXTS, THE TAPE and SHEETS are none of what it keeps.
        FirstSeen y = new FirstSeen();
        ruled(y);
        y.feed('s');
        y.cell(0, 1, 7);
        y.sheet(2, 2, 4);
        y.back();
        Due.is("THE TAPE stays", y.count(5), 1);
        Due.is("a TEXT is made", Due.text(y, "ees 1;worth 0;sleep 9;"), 3);
        y.back();
        Due.is("TEXTS stay", y.count(4), 4);
        Due.is("a SHEET stays", y.cell(2, 3, 1), 1);
        Due.is("it is no missing one", y.cell(2, 4, 1), -12);
        Due.holds("an item stays", Twin.items(y, 0).endsWith("07"));
    }

    /** As two, with a TEXT of its own as THE RULE, another one, and an image of it all. */
    private static void ruled(FirstSeen x) {
        two(x);
        x.text();
        Due.is("a second TEXT", Due.text(x, "sees 1;worth 0;sleep 3;"), 2);
        x.force(1);
        x.image();
    }

    private static void back() {
        Due.sentence(28, "All that it keeps is as in THE IMAGE: how many SLEEPERS. STATE: there is none.");
        Due.is("a new object", new FirstSeen().back(), STATE);
        Twin.unchanged("there is none", t -> {
            t.thing(0, 1, 0);
            t.sleeper(0, 11, 0);
            t.town(0, 4, 4);
            t.sheet(0, 0, 2);
            t.feed(32);
        }, FirstSeen::back, STATE);
        FirstSeen x = new FirstSeen();
        x.sleeper(0, 0, 0);
        Due.is("none yet", x.back(), STATE);
        x.image();
        Due.is("one now", x.back(), 1);
        Due.is("it is kept on", x.back(), 1);
        FirstSeen y = new FirstSeen();
        y.image();
        for (int i = 0; i < 6; i++) {
            y.thing(0, 0, 0);
            y.sleeper(0, 0, 0);
        }
        Due.is("a full town back to nobody", y.back(), 0);
        Due.is("no THINGS", y.count(1), 0);
        Due.is("room for all again", y.thing(0, 0, 0) + y.sleeper(0, 0, 0), 0);
        // A question that tries many towns leaves the one that is kept alone.
        Twin.unchanged("image again", EdgeToldTest::kept, FirstSeen::image, 2);
    }

    /** As two, with an image of just what stands. */
    private static void kept(FirstSeen x) {
        two(x);
        x.image();
    }

    // ---- counts

    private static void count() {
        Due.sentence(29, "How many: 0 SLEEPERS, 1 THINGS, 2 CELLS that are HIGHER than 0, 3 FOG, 4 TEXTS, 5 bytes of THE TAPE, 6 THE RULE. BAD.");
        FirstSeen x = new FirstSeen();
        for (int n = 0; n <= 37; n++) {
            Due.is("SLEEPERS", x.count(0), Math.min(n, 5));
            Due.is("THINGS", x.count(1), Math.min(n, 6));
            Due.is("CELLS", x.count(2), Math.min(n, 36));
            Due.is("FOG", x.count(3), Math.min(n, 9));
            x.sleeper(0, 0, 0);
            x.thing(0, 0, 0);
            x.town(0, n, 1 + n % 9);
            x.town(1, 0, n + 1);
        }
        for (int c = 0; c < 36; c++) {
            Due.is("CELLS that are HIGHER than 0", x.count(2), 36 - c);
            x.town(0, c, 0);
        }
        Due.is("none is HIGHER", x.count(2), 0);
        FirstSeen y = new FirstSeen();
        for (int n = 0; n < 160; n++) {
            Due.is("bytes", y.count(5), n);
            y.feed(n);
        }
        Due.is("bytes of a full one", y.count(5), 160);
        y.feed(0);
        Due.is("no more than that", y.count(5), 160);
        y.text();
        Due.is("no byte more", y.count(5), 0);
        FirstSeen z = new FirstSeen();
        for (int t = 1; t < 6; t++) {
            Due.is("TEXTS", z.count(4), t);
            Due.text(z, "sees 1;worth 1;sleep 1;");
        }
        Due.is("all TEXTS", z.count(4), 6);
        for (int t = 5; t >= 0; t--) {
            z.force(t);
            Due.is("THE RULE", z.count(6), t);
        }
    }

    private static void countRefusals() {
        Due.sentence(29, "5 bytes of THE TAPE, 6 THE RULE. BAD.");
        FirstSeen x = new FirstSeen();
        for (int wrong : new int[] {-1, 7, MIN, MAX}) {
            Due.is("what " + wrong, x.count(wrong), BAD);
        }
        Due.is("what 0", x.count(0), 0);
        Due.is("what 6", x.count(6), 0);
        Twin.unchanged("asking", EdgeToldTest::two, t -> t.count(5), 23);
        Twin.unchanged("what above", EdgeToldTest::two, t -> t.count(7), BAD);
    }
}
