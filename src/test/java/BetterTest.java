/** Promises 16 to 29: what would be better, what was told, what is drawn, kept and counted. */
public final class BetterTest {
    private static final int BAD = FirstSeen.BAD, NONE = FirstSeen.NONE, NO_SUCH = -100000;
    private static final int[] NONE_SUCH = {-1, 2, 5, Integer.MIN_VALUE, Integer.MAX_VALUE};

    public static void main(String[] args) {
        best();
        bestAtTheEnds();
        bestAmongOthers();
        turn();
        rest();
        beds();
        wall();
        fell();
        turned();
        woke();
        judge();
        drawn();
        chance();
        imageAndBack();
        count();
        Due.end("BetterTest");
    }

    private static void best() {
        FirstSeen x = Due.ruledBy("sees 1;worth 0;sleep (minute=5)*3+(minute<5)*9;");
        x.sleeper(0, 23, 0);
        x.thing(0, 3, 500);
        x.thing(0, 12, 600);
        x.thing(1, 18, 590);
        // Ways right and down alone have anything; the walking one is in line till minute 0.
        int[][] due = {{6, 3, 0}, {2, 2, 51}, {6, 2, 60}};
        for (int sort = 0; sort < 3; sort++) {
            for (int what = 0; what < 3; what++) {
                Due.is("16: best " + sort + " " + what, x.best(0, sort, what), due[sort][what]);
            }
        }
        Due.is("16: nobody was turned", x.told(0, 5), 3);
        Due.is("16: nobody was woken", x.told(0, 6), 2);
        for (int wrong : NONE_SUCH) {
            Due.is("16: no such one", x.best(wrong, 0, 0), NO_SUCH);
        }
        for (int wrong : new int[] {-1, 3}) {
            Due.is("16: no such sort", x.best(0, wrong, 0), NO_SUCH);
            Due.is("16: no such what", x.best(0, 0, wrong), NO_SUCH);
        }
        // Nothing costs anything and nothing is seen: all are alike, and the first is told.
        FirstSeen y = Due.ruledBy("sees 0;worth 0;sleep 0;");
        y.sleeper(14, 192, 0);
        int[][] first = {{0, 2}, {19, 0}, {0, 0}};
        for (int sort = 0; sort < 3; sort++) {
            Due.is("16: first minute " + sort, y.best(0, sort, 0), first[sort][0]);
            Due.is("16: first way " + sort, y.best(0, sort, 1), first[sort][1]);
            Due.is("16: left " + sort, y.best(0, sort, 2), 0);
        }
    }

    private static void bestAtTheEnds() {
        FirstSeen late = Due.ruledBy("sees 1;worth 0;sleep 40-minute;");
        late.sleeper(0, 0, 0);
        Due.is("16: the last minute", late.best(0, 0, 0), 23);
        Due.is("16: left in the last minute", late.best(0, 2, 2), -17);
        FirstSeen soon = Due.ruledBy("sees 1;worth 0;sleep 40+minute;");
        soon.sleeper(14, 100, 0);
        soon.thing(0, 13, 10);
        Due.is("16: the first minute", soon.best(0, 0, 0), 0);
        Due.is("16: the last way", soon.best(0, 1, 1), 3);
        Due.is("16: left by both", soon.best(0, 2, 2), -39);
    }

    /** The other one takes the near thing in minute 5: up to then it can be had first. */
    private static void bestAmongOthers() {
        FirstSeen x = Due.ruledBy("sees 1;worth 0;sleep 10-minute;");
        x.thing(0, 1, 300);
        x.thing(0, 2, 50);
        x.sleeper(0, 51, 40);
        x.sleeper(0, 81, 30);
        Due.is("16: younger, so a minute sooner", x.best(1, 0, 0), 4);
        Due.is("16: left then", x.best(1, 0, 2), 24);
        Due.is("16: older, in the same minute or later", x.best(0, 0, 0), 8);
        Due.is("16: left of the older", x.best(0, 0, 2), 28);
        FirstSeen y = Due.ruledBy("sees 1;worth 0;sleep 10-minute;");
        y.thing(0, 1, 300);
        y.sleeper(0, 51, 30);
        y.sleeper(0, 81, 30);
        Due.is("16: of like age the lesser number", y.best(0, 0, 0), 8);
        Due.is("16: of like age the greater one", y.best(1, 0, 0), 4);
    }

    private static void turn() {
        FirstSeen x = new FirstSeen();
        x.thing(0, 7, 400);
        x.thing(3, 6, 309);
        x.sleeper(8, 0, 9);
        x.sleeper(8, 0, 0);
        // In line to the left: the thing, FAR 1; the bull, FAR 2, is worth 64 in odd minutes.
        Due.is("17: left then", x.turn(0), 40);
        Due.is("17: wakes", x.told(0, 6), 23);
        Due.is("17: way", x.told(0, 5), 3);
        Due.is("17: left now", x.left(0), 40);
        Due.is("17: the younger one comes second", x.turn(1), 64);
        Due.is("17: in the same minute", x.told(1, 6), 23);
        Due.is("17: it has the bull", x.has(1), 1);
        for (int wrong : NONE_SUCH) {
            Due.is("17: no such one", x.turn(wrong), NO_SUCH);
        }
    }

    private static void rest() {
        FirstSeen x = new FirstSeen();
        Due.is("18: nobody", x.rest(), 1);
        x.thing(0, 1, 300);
        x.sleeper(0, 231, 0);
        Due.is("18: one at its best", x.rest(), 1);
        x.sleeper(0, 230, 0);
        Due.is("18: another one could be first", x.rest(), 0);
        x.turn(1);
        Due.is("18: which it does", x.told(1, 6), 22);
        Due.is("18: then the first one could", x.rest(), 0);
        x.set(1, 0, 0);
        Due.is("18: for nothing one wakes no sooner", x.rest(), 0);
        x.set(5, 1, 23);
        Due.is("18: then all rest", x.rest(), 1);
        x.set(4, 0, 0);
        Due.is("18: like ones are no reason", x.rest(), 1);
    }

    private static void beds() {
        FirstSeen x = new FirstSeen();
        Due.is("19: nobody, all", x.beds(0), 0);
        Due.is("19: nobody, digits", x.beds(1), 0);
        x.sleeper(14, 232, 5);
        Due.is("19: all alike", x.beds(1), 0);
        Due.is("19: nothing to have", x.beds(0), 0);
        x.thing(0, 17, 500);
        x.thing(0, 12, 400);
        Due.is("19: one", x.beds(1), 1);
        Due.is("19: one, all", x.beds(0), 50);
        x.sleeper(14, 233, 4);
        Due.is("19: two share, least as digits", x.beds(1), 13);
        Due.is("19: two, all", x.beds(0), 90);
        x.set(5, 0, 20);
        Due.is("19: sleep counts", x.beds(0), 87);
        x.sleeper(0, 230, 0);
        // The third one could have the left thing from above, which makes lesser digits.
        Due.is("19: three", x.beds(1), 12);
        Due.is("19: the beds stay", x.told(0, 5), 2);
        Due.is("19: the beds stay, too", x.told(1, 5), 3);
        Due.is("19: what below", x.beds(-1), NO_SUCH);
        Due.is("19: what above", x.beds(2), NO_SUCH);
        // Like ones are told apart by numbers, not by who wakes first.
        FirstSeen z = Due.ruledBy("sees 1;worth 0;sleep 0;");
        z.thing(0, 2, 300);
        z.thing(0, 24, 300);
        z.sleeper(14, 92, 0);
        z.sleeper(12, 10, 0);
        z.thing(0, 17, 300);
        z.thing(0, 0, 200);
        Due.is("19: upward", z.beds(1), 1);
        Due.is("19: upward, all", z.beds(0), 60);
        FirstSeen v = Due.ruledBy("sees 1;worth 0;sleep 0;");
        v.thing(0, 1, 300);
        v.sleeper(0, 11, 0);
        v.sleeper(2, 3, 0);
        Due.is("19: the second one has it as well", v.beds(1), 3);
        FirstSeen u = Due.ruledBy("sees 1;worth 0;sleep 0;");
        u.thing(0, 15, 300);
        u.thing(0, 20, 300);
        u.sleeper(14, 90, 0);
        u.sleeper(14, 10, 0);
        Due.is("19: the later one is the first digit", u.beds(1), 12);
        // Who wakes first decides by its own list: it may be best to turn it away.
        FirstSeen y = Due.ruledBy("sees 1;worth (one=1)*(thing=0)*90;sleep 0;");
        y.thing(0, 1, 50);
        y.sleeper(0, 1, 0);
        y.sleeper(0, 11, 0);
        Due.is("19: turned away", y.beds(1), 1);
        Due.is("19: so that the other has more", y.beds(0), 95);
    }

    private static void wall() {
        FirstSeen x = new FirstSeen();
        x.thing(0, 2, 300);
        x.thing(0, 14, 200);
        x.sleeper(0, 231, 0);
        x.sleeper(12, 231, 0);
        Due.is("20: before the other", x.wall(0, 1), 13);
        Due.is("20: the other way round", x.wall(1, 0), 1);
        Due.is("20: nothing is built", x.count(2), 0);
        x.set(3, 1, 6);
        Due.is("20: nothing to lose", x.wall(0, 1), NONE);
        x.set(3, 1, 0);
        x.thing(0, 3, 100);
        Due.is("20: a wall where one's own thing is hides the other's", x.wall(0, 1), 2);
        Due.is("20: no wall hides the nearer thing alone", x.wall(1, 0), NONE);
        x.set(3, 0, 1);
        Due.is("20: one's own bed may rise", x.wall(0, 1), 1);
        FirstSeen z = new FirstSeen();
        z.thing(0, 5, 0);
        z.sleeper(30, 232, 0);
        z.sleeper(2, 233, 0);
        z.thing(0, 0, 100);
        z.town(0, 2, 0);
        Due.is("20: the one cell between", z.wall(0, 1), 1);
        z.set(4, 1, 1);
        z.set(1, 0, 50);
        z.town(0, 3, 0);
        Due.is("20: on the other side, the first of two", z.wall(0, 1), 3);
        FirstSeen w = Due.ruledBy("sees high=0;worth 0;sleep 0;");
        w.thing(0, 0, 500);
        w.thing(0, 35, 500);
        w.sleeper(1, 3, 0);
        w.sleeper(34, 1, 0);
        Due.is("20: the first cell", w.wall(1, 0), 0);
        Due.is("20: the last cell", w.wall(0, 1), 35);
        Due.is("20: alike", x.wall(0, 0), BAD);
        for (int wrong : NONE_SUCH) {
            Due.is("20: no such one", x.wall(wrong, 0), BAD);
            Due.is("20: no such other", x.wall(0, wrong), BAD);
        }
        // The least is taken, not the first: before thing 1 it would still have thing 0.
        FirstSeen y = new FirstSeen();
        y.thing(4, 3, 904);
        y.set(2, 0, 3);
        y.thing(0, 2, 500);
        y.sleeper(35, 233, 0);
        y.sleeper(0, 231, 0);
        Due.is("20: it has the near one", y.left(1), 50);
        Due.is("20: by a wall it has none", y.wall(0, 1), 1);
        y.town(0, 3, 9);
        Due.is("20: a wall lets see what is as high no more", y.wall(0, 1), 1);
    }

    private static void fell() {
        FirstSeen x = new FirstSeen();
        x.thing(0, 3, 300);
        x.thing(0, 18, 400);
        x.sleeper(0, 231, 0);
        Due.is("21: nothing in the way", x.fell(0), NONE);
        x.town(0, 1, 5);
        Due.is("21: a wall", x.fell(0), 1);
        x.town(0, 2, 5);
        Due.is("21: two walls, one is not enough", x.fell(0), NONE);
        x.town(0, 1, 0);
        Due.is("21: the other one", x.fell(0), 2);
        Due.is("21: it stands yet", x.high(2), 5);
        x.town(0, 0, 5);
        Due.is("21: over the wall", x.fell(0), NONE);
        for (int wrong : NONE_SUCH) {
            Due.is("21: no such one", x.fell(wrong), BAD);
        }
        // Felling one cell shows the far, another one the near thing: the most counts.
        FirstSeen y = Due.ruledBy("sees high=0;worth 0;sleep 0;");
        y.thing(0, 1, 100);
        y.thing(0, 2, 300);
        y.thing(0, 3, 300);
        for (int c = 1; c < 4; c++) {
            y.town(0, c, c);
        }
        y.sleeper(0, 1, 0);
        y.town(0, 0, 9);
        Due.is("21: the most, the first of like ones", y.fell(0), 2);
        FirstSeen z = Due.ruledBy("sees high=0;worth 0;sleep 0;");
        z.thing(0, 0, 500);
        z.thing(0, 35, 500);
        z.sleeper(1, 3, 0);
        z.sleeper(34, 1, 0);
        z.town(0, 0, 1);
        z.town(0, 35, 9);
        Due.is("21: the first cell", z.fell(0), 0);
        Due.is("21: the last cell", z.fell(1), 35);
    }

    private static void turned() {
        FirstSeen x = new FirstSeen();
        x.thing(0, 15, 0);
        x.thing(0, 13, 0);
        x.sleeper(14, 0, 0);
        x.sleeper(35, 2, 0);
        Due.is("22: no such sheet", x.turned(4, 0), BAD);
        Due.is("22: sheet below", x.turned(-1, 0), BAD);
        Due.is("22: no such what", x.turned(0, 2), BAD);
        Due.is("22: what below", x.turned(0, -1), BAD);
        Due.is("22: missing", x.turned(0, 0), -11);
        Due.sheet(x, 0, 0, 0);
        Due.is("22: too short", x.turned(0, 0), BAD);
        Due.sheet(x, 0, 0, 0, -1, -1);
        Due.is("22: too long", x.turned(0, 1), BAD);
        Due.sheet(x, 0, 0, 0, -1);
        Due.is("22: one turned", x.turned(0, 0), 1);
        Due.is("22: which", x.turned(0, 1), 1);
        Due.sheet(x, 1, 1, 1, -1);
        Due.is("22: the other way", x.turned(1, 1), 3);
        Due.sheet(x, 2, 2, -1, -1);
        // Sleeper 0 looking down, and each other way of sleeper 1, who sees nothing anyhow.
        Due.is("22: many", x.turned(2, 0), 4);
        Due.is("22: the first", x.turned(2, 1), 2);
        Due.sheet(x, 2, 2, -1, 0);
        Due.is("22: none", x.turned(2, 0), 0);
        Due.is("22: no first", x.turned(2, 1), NONE);
        x.set(4, 0, 1);
        Due.is("22: as it stands does not count", x.turned(0, 0), 3);
        Due.is("22: the first is another's", x.turned(0, 1), 10);
        Due.is("22: nobody was turned", x.told(0, 5), 1);
    }

    private static void woke() {
        FirstSeen x = new FirstSeen();
        x.thing(3, 12, 2);
        x.thing(0, 14, 0);
        x.sleeper(15, 33, 1);
        x.sleeper(14, 53, 0);
        Due.is("23: no such sheet", x.woke(4, 0), BAD);
        Due.is("23: no such sleeper", x.woke(0, 2), BAD);
        Due.is("23: sleeper below", x.woke(0, -1), BAD);
        Due.is("23: missing", x.woke(0, 0), -11);
        Due.sheet(x, 0, 0, 1);
        Due.is("23: too short", x.woke(0, 0), BAD);
        Due.sheet(x, 0, 2, 1, 0);
        // The bull is FAR 2 from sleeper 1 in odd minutes and in 0, 2, 18, 20 (m / 3 in 0, 6).
        Due.is("23: sleeper 1", x.woke(0, 1), 0xAAAAAA | 1 | 1 << 2 | 1 << 18 | 1 << 20);
        Due.is("23: sleeper 0 has the near one anyhow", x.woke(0, 0), 0xFFFFFF);
        Due.sheet(x, 0, 2, 0, 1);
        Due.is("23: never", x.woke(0, 0), 0);
        Due.is("23: nobody was woken", x.told(1, 6), 5);
        // Both want the one thing: the elder up to the minute of the other, the younger before.
        FirstSeen y = new FirstSeen();
        y.thing(0, 1, 0);
        y.sleeper(0, 101, 5);
        y.sleeper(0, 101, 4);
        Due.sheet(y, 3, 1, 0, -1);
        Due.is("23: the elder", y.woke(3, 0), (1 << 11) - 1);
        Due.is("23: the younger", y.woke(3, 1), 0xFFFFFF & -(1 << 10));
        Due.sheet(y, 3, 1, -1, 0);
        Due.is("23: the elder late", y.woke(3, 0), 0xFFFFFF & -(1 << 11));
        Due.is("23: the younger soon", y.woke(3, 1), (1 << 10) - 1);
    }

    private static void judge() {
        FirstSeen x = new FirstSeen();
        x.thing(0, 1, 0);
        x.thing(0, 2, 0);
        x.sleeper(0, 1, 0);
        x.sleeper(0, 1, 0);
        Due.is("24: no such sheet", x.judge(4), BAD);
        Due.is("24: sheet below", x.judge(-1), BAD);
        Due.is("24: missing", x.judge(2), -11);
        Due.sheet(x, 2, 0, 0, 1, -1);
        Due.is("24: another size", x.judge(2), BAD);
        Due.sheet(x, 2, 0, 0, 1);
        Due.is("24: as told", x.judge(2), NONE);
        Due.sheet(x, 2, 1, 0, -1);
        Due.is("24: the second", x.judge(2), 1);
        Due.sheet(x, 2, 2, 7, -1);
        Due.is("24: the first", x.judge(2), 0);
        FirstSeen y = new FirstSeen();
        y.sheet(0, 0, 0);
        Due.is("24: of nobody", y.judge(0), NONE);
    }

    private static void drawn() {
        FirstSeen x = Due.ruledBy("sees 1;worth fog*2;sleep fog;");
        x.thing(2, 1, 0);
        x.set(1, 0, 20);
        x.sleeper(0, 1, 0);
        x.town(1, 0, 4);
        for (int seed : new int[] {0, 1, 2, 3, 77, 643, 798, -1, -2, 1 << 20, Integer.MIN_VALUE, Integer.MAX_VALUE}) {
            long z = seed * 1103515245L + 12345 & 0xFFFFFFFFL;
            Due.is("25: drawn " + seed, x.drawn(seed), 10 + z / 1024 % 10);
        }
        Due.is("25: the fog stays", x.count(3), 4);
        Due.is("25: and what is left", x.left(-1), 14);
    }

    private static void chance() {
        FirstSeen x = new FirstSeen();
        x.thing(0, 5, 0);
        x.sleeper(0, 1, 0);
        x.sleeper(0, 2, 0);
        for (int n = 1; n <= 20; n++) {
            // FAR 5: it is seen in fogs up to 4.
            int hits = 0;
            for (int seed = 100; seed < 100 + n; seed++) {
                hits += ((seed * 1103515245 + 12345) >>> 10) % 10 <= 4 ? 1 : 0;
            }
            long above = x.chance(100, n, 0, 0), below = x.chance(100, n, 0, 1);
            Due.is("26: as a part of " + n, above * n, hits * below);
            for (int d = 2; d <= 20; d++) {
                Due.holds("26: lowest terms by " + d, above % d != 0 || below % d != 0);
            }
        }
        Due.is("26: never, above", x.chance(5, 20, 1, 0), 0);
        Due.is("26: never, below", x.chance(5, 20, 1, 1), 1);
        Due.is("26: over the end", x.chance(Integer.MAX_VALUE, 2, 1, 1), 1);
        Due.is("26: the fog stays", x.count(3), 0);
        x.set(3, 0, 4);
        x.set(0, 0, 5);
        FirstSeen y = new FirstSeen();
        y.thing(2, 1, 0);
        y.sleeper(0, 1, 0);
        Due.is("26: ever, above", y.chance(-9, 20, 0, 0), 1);
        Due.is("26: ever, below", y.chance(-9, 20, 0, 1), 1);
        for (int wrong : NONE_SUCH) {
            Due.is("26: no such one", x.chance(0, 1, wrong, 0), FirstSeen.NO);
        }
        Due.is("26: n below", x.chance(0, 0, 0, 0), FirstSeen.NO);
        Due.is("26: n above", x.chance(0, 21, 0, 0), FirstSeen.NO);
        Due.is("26: part below", x.chance(0, 1, 0, -1), FirstSeen.NO);
        Due.is("26: part above", x.chance(0, 1, 0, 2), FirstSeen.NO);
    }

    private static void imageAndBack() {
        FirstSeen x = new FirstSeen();
        Due.is("28: no image yet", x.back(), FirstSeen.STATE);
        Due.text(x, "sees 1;worth 0;sleep 0;");
        x.town(0, 5, 6);
        x.town(1, 0, 2);
        x.thing(3, 8, 123);
        x.sleeper(9, 102, 44);
        x.force(1);
        Due.is("27: how many", x.image(), 1);
        spoil(x);
        Due.is("28: how many", x.back(), 1);
        asKept(x);
        // The image stays, and one may go back to it again.
        spoil(x);
        Due.is("28: again", x.back(), 1);
        asKept(x);
        Due.is("28: a new one is of its own kind", x.thing(5, 0, 0), 1);
        Due.is("28: its kind", x.told(1, 3), 5);
        x.sleeper(1, 0, 7);
        Due.is("27: a new image", x.image(), 2);
        x.set(0, 1, 35);
        Due.is("28: to the new one", x.back(), 2);
        Due.is("28: home", x.told(1, 0), 0);
        Due.is("28: age", x.told(1, 7), 7);
        FirstSeen y = new FirstSeen();
        Due.is("27: of nobody", y.image(), 0);
        y.sleeper(0, 0, 0);
        y.thing(0, 0, 0);
        Due.is("28: to nobody", y.back(), 0);
        Due.is("28: no things", y.count(1), 0);
    }

    private static void spoil(FirstSeen x) {
        x.town(0, 5, 1);
        x.town(0, 6, 1);
        x.town(1, 0, 9);
        x.set(0, 0, 0);
        x.set(1, 0, 0);
        x.set(2, 0, 0);
        x.set(3, 0, 0);
        x.set(4, 0, 0);
        x.set(5, 0, 0);
        x.thing(0, 0, 0);
        x.sleeper(0, 0, 0);
        x.force(0);
        x.feed(32);
        x.sheet(0, 0, 3);
    }

    private static void asKept(FirstSeen x) {
        int[] due = {8, 12, 3, 3, 9, 2, 10, 44};
        for (int what = 0; what < 8; what++) {
            Due.is("28: told " + what, x.told(0, what), due[what]);
        }
        Due.is("28: high", x.high(5), 6);
        Due.is("28: not high", x.high(6), 0);
        Due.is("28: fog", x.count(3), 2);
        Due.is("28: rule", x.count(6), 1);
        Due.is("28: things", x.count(1), 1);
        Due.is("28: sleepers", x.count(0), 1);
        Due.is("28: texts stay", x.count(4), 2);
        Due.holds("28: the tape stays", x.count(5) > 0);
        Due.is("28: sheets stay", x.cell(0, 2, 0), 1);
    }

    private static void count() {
        FirstSeen x = new FirstSeen();
        x.sleeper(0, 0, 0);
        x.sleeper(0, 0, 0);
        x.thing(0, 0, 0);
        x.thing(0, 0, 0);
        x.thing(0, 0, 0);
        x.town(0, 0, 1);
        x.town(0, 35, 9);
        x.town(0, 17, 3);
        x.town(0, 18, 3);
        x.town(0, 18, 0);
        x.town(0, 20, 4);
        x.town(1, 0, 5);
        Due.text(x, "sees 1;worth 0;sleep 0;");
        Due.text(x, "sees");
        Due.text(x, "sees 1;worth 0;sleep 0;");
        x.feed(0);
        x.force(2);
        int[] due = {2, 3, 4, 5, 3, 1, 2};
        for (int what = 0; what < 7; what++) {
            Due.is("29: count " + what, x.count(what), due[what]);
        }
        Due.is("29: what below", x.count(-1), BAD);
        Due.is("29: what above", x.count(7), BAD);
    }
}
