/** Sentences of "Terms", part 2, on what would be better, and promises 16 to 21, on both sides. */
public final class EdgeBetterTest {
    private static final int NONE = FirstSeen.NONE, BAD = FirstSeen.BAD, NO_SUCH = -100000;
    private static final int MIN = Integer.MIN_VALUE, MAX = Integer.MAX_VALUE;

    public static void main(String[] args) {
        bestOfAll();
        bestOfLikeOnes();
        bestByASort();
        bestRefusals();
        turn();
        rest();
        beds();
        bedsOfLikeOnes();
        bedsRefusals();
        wallAndOneself();
        wallAndTheOther();
        wallRefusals();
        fellMore();
        fellRefusals();
        Due.end("EdgeBetterTest");
    }

    /** Two things, two sleepers who both want the near one, an image, a sheet, a tape, a rule. */
    private static void two(FirstSeen x) {
        x.thing(0, 1, 300);
        x.thing(5, 3, 200);
        x.town(0, 2, 1);
        x.town(1, 0, 1);
        x.sleeper(0, 52, 9);
        x.sleeper(0, 61, 9);
        x.image();
        x.town(0, 30, 4);
        x.sheet(0, 1, 2);
        x.cell(0, 1, 3);
        Due.text(x, "sees 1;worth 0;sleep 30-minute;");
        x.force(1);
        for (char c : "sees 1;worth 9;sleep 9;".toCharArray()) {
            x.feed(c);
        }
    }

    // ---- BEST

    private static void bestOfAll() {
        Due.sentence(16, "BEST of a SLEEPER: of all MINUTES (sort 0), all WAYS (1), all of both (2) those by which, did it WAKE, did its bed stand so, its LEFT would be most;");
        int[] next = {8, 15, 20, 13};
        for (int m = 0; m < 24; m++) {
            FirstSeen x = Due.ruledBy("sees 1;worth 0;sleep 1-(minute=" + m + ");");
            x.thing(0, 0, 10);
            x.sleeper(14, 10 * ((m + 7) % 24), 0);
            for (int w = 0; w < 4; w++) {
                x.set(0, 0, next[w]);
                x.set(4, 0, (w + 1) % 4);
                Due.is("both, the MINUTE, " + m + " " + w, x.best(0, 2, 0), m);
                Due.is("both, the WAY, " + m + " " + w, x.best(0, 2, 1), w);
                Due.is("both, LEFT, " + m + " " + w, x.best(0, 2, 2), 1);
                Due.is("MINUTES, the MINUTE, " + m + " " + w, x.best(0, 0, 0), m);
                Due.is("MINUTES, the WAY, " + m + " " + w, x.best(0, 0, 1), (w + 1) % 4);
                Due.is("MINUTES, LEFT, " + m + " " + w, x.best(0, 0, 2), 0);
                Due.is("WAYS, the MINUTE, " + m + " " + w, x.best(0, 1, 0), (m + 7) % 24);
                Due.is("WAYS, the WAY, " + m + " " + w, x.best(0, 1, 1), w);
                Due.is("WAYS, LEFT, " + m + " " + w, x.best(0, 1, 2), 0);
            }
        }
        FirstSeen x = Due.ruledBy("sees 1;worth 0;sleep 99;");
        x.sleeper(0, 233, 0);
        for (int sort = 0; sort < 3; sort++) {
            Due.is("the least LEFT that can be, sort " + sort, x.best(0, sort, 2), -99);
        }
        FirstSeen y = Due.ruledBy("sees 1;worth 99;sleep 0;");
        y.thing(3, 5, 990);
        y.sleeper(0, 233, 0);
        Due.is("the most LEFT that can be", y.best(0, 2, 2), 406);
    }

    private static void bestOfLikeOnes() {
        Due.sentence(16, "of like ones the first (by MINUTE, then WAY).");
        FirstSeen x = Due.ruledBy("sees 1;worth 0;sleep 0;");
        x.sleeper(14, 233, 0);
        int[][] due = {{0, 3}, {23, 0}, {0, 0}};
        for (int sort = 0; sort < 3; sort++) {
            Due.is("all alike, the MINUTE, sort " + sort, x.best(0, sort, 0), due[sort][0]);
            Due.is("all alike, the WAY, sort " + sort, x.best(0, sort, 1), due[sort][1]);
        }
        // In MINUTE 3 the best is WAY 3, in MINUTE 4 WAY 0: the MINUTE goes ahead of the WAY.
        FirstSeen y = Due.ruledBy("sees minute=3 and thing=1 or minute=4 and thing=0;worth 0;sleep 0;");
        y.thing(0, 8, 50);
        y.thing(0, 13, 50);
        y.sleeper(14, 0, 0);
        Due.is("like ones, the MINUTE", y.best(0, 2, 0), 3);
        Due.is("like ones, the WAY", y.best(0, 2, 1), 3);
        y.set(1, 0, 6);
        Due.is("the later one is more, the MINUTE", y.best(0, 2, 0), 4);
        Due.is("the later one is more, the WAY", y.best(0, 2, 1), 0);
        y.set(1, 0, 4);
        Due.is("the later one is less, the MINUTE", y.best(0, 2, 0), 3);
        FirstSeen z = Due.ruledBy("sees 1;worth 0;sleep 1-(minute=22 or minute=23);");
        z.sleeper(14, 233, 0);
        Due.is("it WAKES in the later of two like ones", z.best(0, 0, 0), 22);
        Due.is("and stands in the later of like WAYS", z.best(0, 1, 1), 0);
        Due.is("so by both, the MINUTE", z.best(0, 2, 0), 22);
        Due.is("so by both, the WAY", z.best(0, 2, 1), 0);
    }

    private static void bestByASort() {
        Due.sentence(16, "BEST (sort 0 .. 2): the MINUTE (what 0), the WAY (1), LEFT then (2). -100000: none such.");
        FirstSeen x = new FirstSeen();
        two(x);
        // The other one wakes in 6: up to 5, or as old and lesser in 6, one has the near thing.
        int[][] due = {{23, 2, -7}, {5, 1, 5}, {6, 1, 6}};
        for (int sort = 0; sort < 3; sort++) {
            for (int what = 0; what < 3; what++) {
                Due.is("sort " + sort + ", what " + what, x.best(0, sort, what), due[sort][what]);
            }
        }
        int[][] other = {{23, 1, 23}, {6, 1, 6}, {23, 1, 23}};
        for (int sort = 0; sort < 3; sort++) {
            for (int what = 0; what < 3; what++) {
                Due.is("the other, sort " + sort + ", what " + what, x.best(1, sort, what), other[sort][what]);
            }
        }
    }

    private static void bestRefusals() {
        Due.sentence(16, "-100000: none such.");
        FirstSeen x = new FirstSeen();
        two(x);
        for (int wrong : new int[] {NONE, 2, 5, MIN, MAX}) {
            for (int sort = 0; sort < 3; sort++) {
                Due.is("SLEEPER " + wrong, x.best(wrong, sort, 0), NO_SUCH);
            }
        }
        for (int wrong : new int[] {-1, 3, MIN, MAX}) {
            Due.is("sort " + wrong, x.best(0, wrong, 0), NO_SUCH);
            Due.is("what " + wrong, x.best(0, 2, wrong), NO_SUCH);
        }
        Twin.unchanged("asking", EdgeBetterTest::two, t -> t.best(0, 2, 1), 1);
        Twin.unchanged("asking by MINUTES", EdgeBetterTest::two, t -> t.best(1, 0, 2), 23);
        Twin.unchanged("asking by WAYS", EdgeBetterTest::two, t -> t.best(0, 1, 2), 5);
        Twin.unchanged("asking of none", EdgeBetterTest::two, t -> t.best(2, 2, 1), NO_SUCH);
        Twin.unchanged("a sort above", EdgeBetterTest::two, t -> t.best(0, 3, 1), NO_SUCH);
        Twin.unchanged("what above", EdgeBetterTest::two, t -> t.best(0, 2, 3), NO_SUCH);
    }

    private static void turn() {
        Due.sentence(17, "A SLEEPER truly WAKES, and its bed stands, by BEST of both: LEFT then. -100000: no such one.");
        FirstSeen x = new FirstSeen();
        two(x);
        for (int wrong : new int[] {NONE, 2, 5, MIN, MAX}) {
            Due.is("SLEEPER " + wrong, x.turn(wrong), NO_SUCH);
        }
        Due.is("the first", x.turn(0), 6);
        Due.is("WAKES", x.told(0, 6), 6);
        Due.is("WAY", x.told(0, 5), 1);
        Due.is("the CELL stays", x.told(0, 4), 0);
        Due.is("the AGE stays", x.told(0, 7), 9);
        Due.is("the other WAKES as before", x.told(1, 6), 6);
        Due.is("the other stands as before", x.told(1, 5), 1);
        Due.is("LEFT now", x.left(0), 6);
        Due.is("the other one takes the thing a MINUTE sooner", x.turn(1), 5);
        Due.is("so that the first one HAS none", x.left(0), -24);
        Due.is("as the hill is hidden from it", x.has(0), NONE);
        FirstSeen y = Due.ruledBy("sees 1;worth 0;sleep 0;");
        y.sleeper(14, 233, 0);
        Due.is("of like ones", y.turn(0), 0);
        Due.is("the first MINUTE", y.told(0, 6), 0);
        Due.is("the first WAY", y.told(0, 5), 0);
        Due.is("and again", y.turn(0), 0);
        Due.is("it stays in MINUTE", y.told(0, 6), 0);
        Due.is("it stays in WAY", y.told(0, 5), 0);
        Twin.unchanged("no such one", EdgeBetterTest::two, t -> t.turn(2), NO_SUCH);
        Twin.unchanged("NONE", EdgeBetterTest::two, t -> t.turn(NONE), NO_SUCH);
    }

    private static void rest() {
        Due.sentence(18, "AT REST: nobody's LEFT would be more than it is by BEST of both.");
        Due.sentence(18, "AT REST: 1, 0.");
        Due.is("nobody", new FirstSeen().rest(), 1);
        // All have nothing and wake last, which is as good as can be; then one of them does not.
        for (int restless = 0; restless < 5; restless++) {
            FirstSeen x = new FirstSeen();
            for (int s = 0; s < 5; s++) {
                x.sleeper(14, 233, 0);
                Due.is("as good as can be, " + (s + 1), x.rest(), 1);
            }
            x.set(5, restless, 22);
            Due.is("1 more for " + restless, x.rest(), 0);
            x.set(5, restless, 23);
            Due.is("at rest again", x.rest(), 1);
        }
        FirstSeen x = Due.ruledBy("sees 1;worth 0;sleep 0;");
        x.sleeper(14, 233, 0);
        x.thing(0, 13, 0);
        Due.is("as much in every MINUTE and WAY", x.rest(), 1);
        x.thing(0, 15, 10);
        Due.is("1 more by WAY", x.rest(), 0);
        x.set(4, 0, 1);
        Due.is("which it has", x.rest(), 1);
        Twin.unchanged("asking", EdgeBetterTest::two, FirstSeen::rest, 0);
    }

    // ---- BEDS

    private static void beds() {
        Due.sentence(19, "BEDS: of all WAYS in which all beds could stand those by which ALL LEFT would be most;");
        // Beds in the last column, in the first, in the last row, in the first: WAYS 3, 1, 0, 2.
        int[][] beds = {{5, 11, 17, 23, 29}, {0, 6, 12, 18, 24}, {30, 31, 32, 33, 34}, {0, 1, 2, 3, 4}};
        int[][] things = {{0, 6, 12, 18, 24}, {5, 11, 17, 23, 29}, {0, 1, 2, 3, 4}, {30, 31, 32, 33, 34}};
        int[] way = {3, 1, 0, 2};
        for (int k = 0; k < 4; k++) {
            FirstSeen x = Due.ruledBy("sees 1;worth 0;sleep one;");
            int digits = 0;
            int left = 0;
            Due.is("nobody, ALL LEFT", x.beds(0), 0);
            Due.is("nobody, the digits", x.beds(1), 0);
            for (int s = 0; s < 5; s++) {
                x.thing(0, things[k][s], 10);
                x.sleeper(beds[k][s], 10 * s + (way[k] + s) % 4, s);
                digits = 10 * digits + way[k];
                left += 1 - s;
                Due.is("WAY " + way[k] + ", of " + (s + 1) + ", ALL LEFT", x.beds(0), left);
                Due.is("WAY " + way[k] + ", of " + (s + 1) + ", the digits", x.beds(1), digits);
            }
        }
        FirstSeen x = Due.ruledBy("sees 0;worth 0;sleep 99;");
        for (int s = 0; s < 5; s++) {
            x.sleeper(14, 233, 0);
        }
        Due.is("the least that can be", x.beds(0), -495);
        Due.is("all alike", x.beds(1), 0);
        FirstSeen y = Due.ruledBy("sees 1;worth 99;sleep 0;");
        for (int s = 0; s < 5; s++) {
            y.thing(3, 6 * s, 990);
            y.sleeper(6 * s + 5, s % 4, 0);
        }
        Due.is("the most that can be", y.beds(0), 2030);
        Due.is("its digits", y.beds(1), 33333);
    }

    private static void bedsOfLikeOnes() {
        Due.sentence(19, "of like ones the least as digits (SLEEPER 0's WAY the highest).");
        // Each of two may look up or left, each way at one thing that one alone can have.
        for (int early = 0; early < 2; early++) {
            FirstSeen x = Due.ruledBy("sees 1;worth 0;sleep 0;");
            x.thing(0, 8, 100);
            x.thing(0, 13, 100);
            x.sleeper(14, early == 0 ? 13 : 93, 0);
            x.sleeper(14, early == 0 ? 93 : 13, 0);
            Due.is("up, left, " + early + " wakes first", x.beds(1), 3);
            Due.is("up, left, ALL LEFT", x.beds(0), 20);
            x.set(1, 0, 9);
            x.set(1, 1, 11);
            Due.is("as much in all", x.beds(1), 3);
        }
        // By 1 more the greater digits are the ones.
        FirstSeen y = Due.ruledBy("sees 1;worth 0;sleep 0;");
        y.thing(0, 8, 100);
        y.thing(0, 13, 100);
        y.sleeper(14, 0, 0);
        Due.is("like ones", y.beds(1), 0);
        y.set(1, 1, 11);
        Due.is("1 more by the last WAY", y.beds(1), 3);
        y.sleeper(0, 0, 0);
        Due.is("the second, who HAS none, is 0", y.beds(1), 30);
        Due.is("ALL LEFT", y.beds(0), 11);
    }

    private static void bedsRefusals() {
        Due.sentence(19, "BEDS: ALL LEFT (what 0), the digits (1; 0 without SLEEPERS). -100000: what.");
        FirstSeen x = new FirstSeen();
        for (int wrong : new int[] {-1, 2, MIN, MAX}) {
            Due.is("what " + wrong + ", nobody", x.beds(wrong), NO_SUCH);
        }
        x.thing(0, 1, 500);
        Due.is("things without SLEEPERS, ALL LEFT", x.beds(0), 0);
        Due.is("things without SLEEPERS, the digits", x.beds(1), 0);
        x.sleeper(0, 0, 0);
        for (int wrong : new int[] {-1, 2, MIN, MAX}) {
            Due.is("what " + wrong, x.beds(wrong), NO_SUCH);
        }
        Due.is("the digits", x.beds(1), 1);
        Twin.unchanged("asking", EdgeBetterTest::two, t -> t.beds(1), 1);
        Twin.unchanged("asking for ALL LEFT", EdgeBetterTest::two, t -> t.beds(0), 30 - 25 - 24);
        Twin.unchanged("what above", EdgeBetterTest::two, t -> t.beds(2), NO_SUCH);
    }

    // ---- WALL

    /** WALL by 0 against 1, whose things lie both in cell 1, next to both beds, by what is told. */
    private static int nextWall(String worth) {
        FirstSeen x = Due.ruledBy("sees 1;worth " + worth + ";sleep 0;");
        x.thing(0, 1, 500);
        x.thing(0, 1, 500);
        x.sleeper(0, 1, 0);
        x.sleeper(2, 3, 0);
        return x.wall(0, 1);
    }

    private static void wallAndOneself() {
        Due.sentence(20, "WALL for a SLEEPER against another one: of CELLS by which, were it 9 HIGH, its own LEFT would be no less than now, and the other one's less than now");
        Due.is("as much for oneself, 1 less for the other", nextWall("-(high=9)*one"), 1);
        Due.is("1 more for oneself, 1 less for the other", nextWall("(high=9)*(1-2*one)"), 1);
        Due.is("1 less for oneself, 9 less for the other", nextWall("-(high=9)*(1+8*one)"), NONE);
        Due.is("as much for both", nextWall("0"), NONE);
        Due.is("as much for oneself, 1 more for the other", nextWall("(high=9)*one"), NONE);
        Due.is("8 HIGH is not enough", nextWall("-(high=8)*one"), NONE);
        Due.is("below 9 HIGH more is told", nextWall("-(8<high)*one"), 1);
        FirstSeen x = Due.ruledBy("sees 1;worth -(high=9)*one;sleep 0;");
        x.thing(0, 1, 500);
        x.thing(0, 1, 500);
        x.sleeper(0, 1, 0);
        x.sleeper(2, 3, 0);
        x.town(0, 1, 8);
        Due.is("of a CELL that is 8 HIGH", x.wall(0, 1), 1);
        x.town(0, 1, 9);
        Due.is("of one that is 9 HIGH already", x.wall(0, 1), NONE);
    }

    /** WALL by 0, who has nothing, against 1: a thing 2 FAR ahead of it, PRICE 5, the like on its CELL. */
    private static int farWall(int less) {
        FirstSeen x = Due.ruledBy("sees 1;worth -(high=9)*" + less + ";sleep 0;");
        x.thing(0, 18, 50);
        x.sleeper(5, 0, 0);
        x.sleeper(30, 0, 0);
        return x.wall(0, 1);
    }

    private static void wallAndTheOther() {
        Due.sentence(20, "that by which the other one's would be least; of like ones the first; NONE.");
        Due.is("less by hiding than on the thing", farWall(4), 24);
        Due.is("as little", farWall(5), 18);
        Due.is("no less than 0 on the thing", farWall(6), 18);
        Due.is("1 less on the thing, all by hiding", farWall(1), 24);
        Due.is("hiding alone", farWall(0), 24);
        FirstSeen x = Due.ruledBy("sees high<9;worth 0;sleep 0;");
        x.thing(0, 0, 10);
        x.sleeper(14, 0, 0);
        x.sleeper(1, 3, 0);
        Due.is("the first CELL", x.wall(0, 1), 0);
        x.set(0, 0, 35);
        x.set(3, 1, 34);
        x.set(4, 1, 1);
        Due.is("the last CELL", x.wall(0, 1), 35);
        x.set(1, 0, 0);
        Due.is("nothing to lose", x.wall(0, 1), NONE);
        x.set(1, 0, 1);
        Due.is("1 to lose", x.wall(0, 1), 35);
        x.set(0, 0, 30);
        Due.is("it looks away from it", x.wall(0, 1), NONE);
        x.set(3, 1, 35);
        x.set(4, 1, 3);
        Due.is("all between are alike: the first, on which it lies", x.wall(0, 1), 30);
        Due.is("the other way round there is nothing to lose", x.wall(1, 0), NONE);
    }

    private static void wallRefusals() {
        Due.sentence(20, "WALL. BAD: no such two (alike, too); NONE.");
        FirstSeen x = new FirstSeen();
        two(x);
        for (int wrong : new int[] {NONE, 2, 5, MIN, MAX}) {
            Due.is("SLEEPER " + wrong, x.wall(wrong, 0), BAD);
            Due.is("against " + wrong, x.wall(0, wrong), BAD);
            Due.is("both " + wrong, x.wall(wrong, wrong), BAD);
        }
        Due.is("alike, the first", x.wall(0, 0), BAD);
        Due.is("alike, the last", x.wall(1, 1), BAD);
        Due.is("no wall", x.wall(0, 1), NONE);
        Due.is("no wall, the other way round", x.wall(1, 0), NONE);
        FirstSeen y = new FirstSeen();
        y.sleeper(0, 0, 0);
        Due.is("one alone", y.wall(0, 1), BAD);
        Twin.unchanged("asking for none", EdgeBetterTest::two, t -> t.wall(0, 1), NONE);
        Twin.unchanged("asking", t -> {
            two(t);
            t.set(0, 0, 2);
            t.town(0, 2, 0);
            t.set(3, 0, 12);
        }, t -> t.wall(0, 1), 1);
        Twin.unchanged("alike", EdgeBetterTest::two, t -> t.wall(1, 1), BAD);
        Twin.unchanged("no such one", EdgeBetterTest::two, t -> t.wall(1, 2), BAD);
    }

    // ---- FELL

    private static void fellMore() {
        Due.sentence(21, "FELL for a SLEEPER: of CELLS by which, were it 0 HIGH, its LEFT would be more than now, that by which it would be most; of like ones the first; NONE.");
        FirstSeen x = Due.ruledBy("sees high=0;worth 0;sleep 7;");
        for (int t = 0; t < 5; t++) {
            x.thing(0, t + 1, 0);
            x.town(0, t + 1, 1);
        }
        x.town(0, 0, 1);
        x.sleeper(0, 1, 0);
        Due.is("as much by all", x.fell(0), NONE);
        x.set(1, 4, 1);
        Due.is("1 more by one", x.fell(0), 5);
        x.set(1, 2, 1);
        Due.is("1 more by two", x.fell(0), 3);
        x.set(1, 4, 2);
        Due.is("most by the last", x.fell(0), 5);
        x.set(1, 0, 2);
        Due.is("most by the first, too", x.fell(0), 1);
        x.set(1, 1, 3);
        Due.is("most by one between", x.fell(0), 2);
        x.town(0, 2, 0);
        Due.is("which it has: none is more", x.fell(0), NONE);
        x.set(1, 0, 3);
        Due.is("as much is not more", x.fell(0), NONE);
        x.set(1, 0, 4);
        Due.is("1 more than now", x.fell(0), 1);
        x.set(1, 4, 99);
        Due.is("the nearer one is had, so by another there is no more", x.fell(0), 1);
        FirstSeen y = Due.ruledBy("sees high=0;worth 0;sleep 0;");
        y.thing(0, 0, 10);
        y.sleeper(1, 3, 0);
        y.town(0, 0, 1);
        Due.is("the first CELL", y.fell(0), 0);
        y.town(0, 0, 0);
        Due.is("0 HIGH already", y.fell(0), NONE);
        y.set(0, 0, 35);
        y.set(3, 0, 34);
        y.set(4, 0, 1);
        y.town(0, 35, 9);
        Due.is("the last CELL", y.fell(0), 35);
        FirstSeen z = Due.ruledBy("sees 1;worth -(high<1)*one;sleep 0;");
        z.thing(0, 1, 500);
        z.thing(0, 1, 500);
        z.sleeper(0, 1, 0);
        z.sleeper(2, 3, 0);
        z.town(0, 1, 5);
        Due.is("1 less", z.fell(1), NONE);
    }

    private static void fellRefusals() {
        Due.sentence(21, "FELL. BAD; NONE.");
        FirstSeen x = new FirstSeen();
        two(x);
        for (int wrong : new int[] {NONE, 2, 5, MIN, MAX}) {
            Due.is("SLEEPER " + wrong, x.fell(wrong), BAD);
        }
        Due.is("nothing to fell", x.fell(0), NONE);
        Due.is("a flat town", flatFell(), NONE);
        Twin.unchanged("asking for none", EdgeBetterTest::two, t -> t.fell(1), NONE);
        Twin.unchanged("asking", t -> {
            two(t);
            t.town(0, 1, 2);
            t.set(0, 0, 2);
            t.town(0, 2, 0);
        }, t -> t.fell(1), 1);
        Twin.unchanged("no such one", EdgeBetterTest::two, t -> t.fell(2), BAD);
    }

    private static int flatFell() {
        FirstSeen x = new FirstSeen();
        x.thing(0, 1, 500);
        x.sleeper(0, 3, 0);
        return x.fell(0);
    }
}
