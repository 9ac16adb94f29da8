/** Sentences of "Terms", part 2, on looking and mornings, and promises 12 to 15, on both sides. */
public final class EdgeMorningTest {
    private static final int NONE = FirstSeen.NONE, BAD = FirstSeen.BAD, NO_SUCH = -100000;
    private static final int MIN = Integer.MIN_VALUE, MAX = Integer.MAX_VALUE;

    public static void main(String[] args) {
        looks();
        overOneCell();
        overMoreCells();
        overNothing();
        seenInOrder();
        seenByMinute();
        seenRefusals();
        orderOfWaking();
        whoHas();
        has();
        whose();
        left();
        allLeft();
        Due.end("EdgeMorningTest");
    }

    private static void looks() {
        Due.sentence(12, "A SLEEPER LOOKS its WAY from its CELL on: the CELLS that way, FAR 1, 2, .., till the town ends;");
        int[] down = {-1, 0, 1, 0};
        int[] across = {0, 1, 0, -1};
        for (int bed = 0; bed < 36; bed++) {
            for (int way = 0; way < 4; way++) {
                FirstSeen x = Due.ruledBy("sees 1;worth 0;sleep 0;");
                x.thing(1, 0, 0);
                x.sleeper(bed, way, 0);
                for (int cell = 0; cell < 36; cell++) {
                    x.set(0, 0, cell);
                    int due = 0;
                    for (int far = 1; far < 6; far++) {
                        boolean there = cell / 6 == bed / 6 + far * down[way] && cell % 6 == bed % 6 + far * across[way];
                        due = there ? far : due;
                    }
                    String call = "bed " + bed + ", way " + way + ", thing " + cell;
                    Due.is(call, x.seen(0, 0), due == 0 ? NONE : 0);
                    // A WALKING of no price is worth how FAR it is.
                    Due.is(call + ", FAR", x.left(0), due);
                }
            }
        }
    }

    private static void overOneCell() {
        Due.sentence(12, "one sees into one of these, if of CELLS between it and the bed's none is HIGHER than the bed's, or it is HIGHER than all CELLS between.");
        for (int bed = 0; bed < 10; bed++) {
            FirstSeen x = new FirstSeen();
            x.thing(0, 7, 0);
            x.thing(0, 13, 0);
            x.sleeper(1, 2, 0);
            x.town(0, 1, bed);
            for (int between = 0; between < 10; between++) {
                for (int it = 0; it < 10; it++) {
                    x.town(0, 7, between);
                    x.town(0, 13, it);
                    String call = "bed " + bed + ", between " + between + ", it " + it;
                    Due.is(call + ", the next one", x.seen(0, 0), 0);
                    Due.is(call, x.seen(0, 1), between <= bed || it > between ? 1 : NONE);
                }
            }
        }
    }

    private static void overMoreCells() {
        Due.sentence(12, "if of CELLS between it and the bed's none is HIGHER than the bed's, or it is HIGHER than all CELLS between.");
        // All but one of the cells between are 4 high, as the bed is; the one is higher or not.
        for (int one = 31; one < 35; one++) {
            for (int high = 0; high < 10; high++) {
                FirstSeen x = fiveFar(4);
                x.town(0, one, high);
                for (int it = 0; it < 10; it++) {
                    x.town(0, 30, it);
                    boolean due = high <= 4 || it > high;
                    Due.is("cell " + one + " is " + high + ", it is " + it, x.seen(0, 0), due ? 0 : NONE);
                }
            }
        }
        // Two that are higher than the bed: it must be higher than both of them.
        for (int it = 0; it < 10; it++) {
            FirstSeen x = fiveFar(0);
            x.town(0, 34, 5);
            x.town(0, 32, 7);
            x.town(0, 30, it);
            Due.is("5 and 7 between, it is " + it, x.seen(0, 0), it > 7 ? 0 : NONE);
            x.town(0, 34, 7);
            x.town(0, 32, 5);
            Due.is("7 and 5 between, it is " + it, x.seen(0, 0), it > 7 ? 0 : NONE);
            x.town(0, 35, 6);
            Due.is("7 and 5 between, bed 6, it is " + it, x.seen(0, 0), it > 7 ? 0 : NONE);
            x.town(0, 35, 7);
            Due.is("7 and 5 between, bed 7, it is " + it, x.seen(0, 0), 0);
        }
    }

    /** A thing in cell 30, 5 FAR from a bed in cell 35, with the bed and all between so high. */
    private static FirstSeen fiveFar(int high) {
        FirstSeen x = Due.ruledBy("sees far=5;worth 0;sleep 0;");
        x.thing(0, 30, 0);
        x.sleeper(35, 3, 0);
        for (int c = 31; c < 36; c++) {
            x.town(0, c, high);
        }
        return x;
    }

    private static void overNothing() {
        Due.sentence(12, "the CELLS that way, FAR 1, 2, .., till the town ends;");
        FirstSeen x = new FirstSeen();
        x.thing(0, 14, 0);
        x.sleeper(14, 0, 0);
        for (int way = 0; way < 4; way++) {
            x.set(4, 0, way);
            Due.is("the bed's own cell is not among them, way " + way, x.seen(0, 0), NONE);
        }
        Due.sentence(12, "one sees into one of these, if of CELLS between it and the bed's none is HIGHER");
        x.set(0, 0, 13);
        for (int bed = 0; bed < 10; bed += 9) {
            for (int it = 0; it < 10; it += 9) {
                x.town(0, 14, bed);
                x.town(0, 13, it);
                Due.is("none between, bed " + bed + ", it " + it, x.seen(0, 0), 0);
            }
        }
    }

    private static void seenInOrder() {
        Due.sentence(12, "nearer ones first, of one CELL those of lesser numbers first.");
        FirstSeen x = new FirstSeen();
        x.sleeper(0, 1, 0);
        Due.is("nothing there", x.seen(0, 0), NONE);
        Due.is("nothing there, the last", x.seen(0, 5), NONE);
        for (int t = 0; t < 6; t++) {
            x.thing(0, 3, 0);
            for (int i = 0; i < 6; i++) {
                Due.is(t + 1 + " of one CELL, number " + i, x.seen(0, i), i <= t ? i : NONE);
            }
        }
        int[] homes = {5, 4, 5, 1, 4, 1};
        int[] due = {3, 5, 1, 4, 0, 2};
        for (int t = 0; t < 6; t++) {
            x.set(0, t, homes[t]);
        }
        for (int i = 0; i < 6; i++) {
            Due.is("two of each CELL, number " + i, x.seen(0, i), due[i]);
        }
        x.town(1, 0, 5);
        Due.is("the last that shows", x.seen(0, 3), 4);
        Due.is("none behind it", x.seen(0, 4), NONE);
        Due.sentence(12, "of which sees tells it");
        FirstSeen y = Due.ruledBy("sees thing=5;worth 0;sleep 0;");
        y.sleeper(0, 1, 0);
        for (int t = 0; t < 6; t++) {
            y.thing(0, 1, 0);
        }
        Due.is("the last alone comes first", y.seen(0, 0), 5);
        Due.is("and alone", y.seen(0, 1), NONE);
    }

    private static void seenByMinute() {
        Due.sentence(12, "THINGS that are in a CELL that one sees into, in the MINUTE in which one WAKES");
        FirstSeen x = new FirstSeen();
        x.thing(1, 7, 0);
        x.sleeper(1, 2, 0);
        x.sleeper(0, 2, 0);
        for (int m = 0; m < 24; m++) {
            x.set(5, 0, m);
            x.set(5, 1, m);
            Due.is("below HOME in " + m, x.seen(0, 0), m % 6 == 0 ? 0 : NONE);
            Due.is("in the first of the row in " + m, x.seen(1, 0), m % 6 == 5 ? 0 : NONE);
        }
        // Each one looks in its own minute, whatever the others do.
        x.set(5, 0, 0);
        x.set(5, 1, 23);
        Due.is("the one in 0", x.seen(0, 0), 0);
        Due.is("the other one in 23", x.seen(1, 0), 0);
    }

    /** Three beds and four things in a row, of which two want the same one. */
    private static void row(FirstSeen x) {
        x.thing(0, 1, 100);
        x.thing(1, 2, 200);
        x.thing(4, 4, 304);
        x.thing(5, 5, 990);
        x.sleeper(0, 1, 50);
        x.sleeper(0, 1, 49);
        x.sleeper(35, 232, 0);
        x.town(0, 3, 1);
        x.town(1, 0, 2);
        x.image();
        Due.text(x, "sees 1;worth thing;sleep one;");
    }

    private static void seenRefusals() {
        Due.sentence(12, "The THING that a SLEEPER has SEEN as number i (0 .. 5; whoever HAS it). BAD; NONE.");
        FirstSeen x = new FirstSeen();
        row(x);
        for (int wrong : new int[] {-1, 3, 5, MIN, MAX}) {
            Due.is("SLEEPER " + wrong, x.seen(wrong, 0), BAD);
        }
        for (int wrong : new int[] {-1, 6, MIN, MAX}) {
            Due.is("number " + wrong, x.seen(0, wrong), BAD);
            Due.is("number " + wrong + " of one who sees nothing", x.seen(2, wrong), BAD);
            Due.is("SLEEPER 3, number " + wrong, x.seen(3, wrong), BAD);
        }
        Due.is("number 0", x.seen(0, 0), 0);
        Due.is("number 0, whoever HAS it", x.seen(1, 0), 0);
        Due.is("which another one HAS", x.whose(0), 0);
        Due.is("number 5", x.seen(0, 5), NONE);
        Due.is("number 5 of one who sees nothing", x.seen(2, 5), NONE);
        Twin.unchanged("asking", EdgeMorningTest::row, t -> t.seen(0, 1), 1);
        Twin.unchanged("asking of none", EdgeMorningTest::row, t -> t.seen(3, 0), BAD);
        Twin.unchanged("asking for number 6", EdgeMorningTest::row, t -> t.seen(0, 6), BAD);
    }

    /** Which of two has the one thing that both see. */
    private static int first(int oneWakes, int oneAge, int otherWakes, int otherAge) {
        FirstSeen x = new FirstSeen();
        x.thing(0, 1, 0);
        x.sleeper(0, 10 * oneWakes + 1, oneAge);
        x.sleeper(0, 10 * otherWakes + 1, otherAge);
        int who = x.whose(0);
        Due.is("the one HAS", x.has(0), who == 0 ? 0 : NONE);
        Due.is("the other one HAS", x.has(1), who == 1 ? 0 : NONE);
        return who;
    }

    private static void orderOfWaking() {
        Due.sentence(13, "SLEEPERS in the order of MINUTES in which they WAKE, of one MINUTE the one of more AGE first, of like ones that of the lesser number");
        Due.is("a MINUTE later", first(1, 0, 0, 0), 1);
        Due.is("a MINUTE sooner", first(0, 0, 1, 0), 0);
        Due.is("a MINUTE later, though older", first(23, 99, 22, 0), 1);
        Due.is("a MINUTE sooner, though younger", first(22, 0, 23, 99), 0);
        Due.is("the first against the last MINUTE", first(23, 0, 0, 0), 1);
        Due.is("of one MINUTE, a year older", first(5, 1, 5, 0), 0);
        Due.is("of one MINUTE, a year younger", first(5, 0, 5, 1), 1);
        Due.is("of one MINUTE, the oldest", first(5, 98, 5, 99), 1);
        Due.is("like ones, the least AGE", first(5, 0, 5, 0), 0);
        Due.is("like ones, the most AGE", first(23, 99, 23, 99), 0);
        // All five, in an order that is the reverse of their numbers, then mixed.
        int[][] wakes = {{4, 3, 2, 1, 0}, {0, 0, 0, 0, 0}, {7, 7, 3, 3, 3}, {9, 9, 9, 9, 8}};
        int[][] ages = {{9, 9, 9, 9, 9}, {0, 1, 2, 3, 4}, {5, 6, 5, 5, 6}, {0, 99, 0, 99, 0}};
        int[][] due = {{4, 3, 2, 1, 0}, {4, 3, 2, 1, 0}, {4, 3, 1, 2, 0}, {3, 1, 4, 2, 0}};
        for (int k = 0; k < 4; k++) {
            FirstSeen x = new FirstSeen();
            for (int s = 0; s < 5; s++) {
                x.thing(0, 1, 0);
                x.sleeper(0, 10 * wakes[k][s] + 1, ages[k][s]);
            }
            for (int s = 0; s < 5; s++) {
                Due.is("row " + k + ", sleeper " + s, x.has(s), due[k][s]);
            }
        }
    }

    private static void whoHas() {
        Due.sentence(13, "each HAS the first THING that it has SEEN and that nobody HAS yet; none, if there is none.");
        for (int things = 0; things <= 6; things++) {
            FirstSeen x = new FirstSeen();
            for (int s = 0; s < 5; s++) {
                x.sleeper(0, 1, 0);
            }
            for (int t = 0; t < things; t++) {
                x.thing(0, 5 - t % 5, 0);
            }
            // Things 0, 5 lie in the last cell, 4 in the first one: nearest first.
            int[] order = {4, 3, 2, 1, 0, 5};
            int s = 0;
            for (int t : order) {
                if (t < things) {
                    Due.is("whose " + t + " of " + things, x.whose(t), s < 5 ? s : NONE);
                    if (s < 5) {
                        Due.is("has " + s + " of " + things, x.has(s), t);
                    }
                    s++;
                }
            }
            for (; s < 5; s++) {
                Due.is("none for " + s + " of " + things, x.has(s), NONE);
            }
        }
    }

    private static void has() {
        Due.sentence(13, "Which THING a SLEEPER HAS (NONE). BAD.");
        FirstSeen x = new FirstSeen();
        row(x);
        int[] due = {0, 1, NONE};
        for (int s = 0; s < 3; s++) {
            Due.is("SLEEPER " + s, x.has(s), due[s]);
        }
        for (int wrong : new int[] {NONE, -2, 3, 4, 5, MIN, MAX}) {
            Due.is("SLEEPER " + wrong, x.has(wrong), BAD);
        }
        Twin.unchanged("asking", EdgeMorningTest::row, t -> t.has(1), 1);
        Twin.unchanged("asking of none", EdgeMorningTest::row, t -> t.has(3), BAD);
    }

    private static void whose() {
        Due.sentence(14, "Who HAS a THING (NONE). BAD.");
        FirstSeen x = new FirstSeen();
        row(x);
        int[] due = {0, 1, NONE, NONE};
        for (int t = 0; t < 4; t++) {
            Due.is("THING " + t, x.whose(t), due[t]);
        }
        for (int wrong : new int[] {NONE, -2, 4, 5, 6, MIN, MAX}) {
            Due.is("THING " + wrong, x.whose(wrong), BAD);
        }
        FirstSeen y = new FirstSeen();
        y.thing(0, 0, 0);
        Due.is("without SLEEPERS", y.whose(0), NONE);
        Twin.unchanged("asking", EdgeMorningTest::row, t -> t.whose(1), 1);
        Twin.unchanged("asking of none", EdgeMorningTest::row, t -> t.whose(4), BAD);
    }

    private static void left() {
        Due.sentence(15, "LEFT of a SLEEPER; sleeper NONE: ALL LEFT. -100000: no such one.");
        FirstSeen x = new FirstSeen();
        row(x);
        Due.is("the first", x.left(0), 10 - 23);
        Due.is("the second", x.left(1), 20 + 2 - 23);
        Due.is("the last", x.left(2), 0);
        Due.is("NONE", x.left(NONE), -14);
        for (int wrong : new int[] {-2, 3, 4, 5, MIN, MAX}) {
            Due.is("SLEEPER " + wrong, x.left(wrong), NO_SUCH);
        }
        Due.sentence(15, "being told; 0 if it HAS none), less sleep.");
        FirstSeen y = Due.ruledBy("sees 1;worth 99;sleep 99;");
        y.thing(0, 35, 990);
        y.sleeper(0, 1, 0);
        Due.is("it HAS none", y.left(0), -99);
        y.set(0, 0, 1);
        Due.is("it HAS one", y.left(0), 99);
        y.set(1, 0, 0);
        Due.is("it HAS one that is as dear as sleep", y.left(0), 0);
        Twin.unchanged("asking", EdgeMorningTest::row, t -> t.left(1), -1);
        Twin.unchanged("asking for all", EdgeMorningTest::row, t -> t.left(NONE), -14);
        Twin.unchanged("asking of none", EdgeMorningTest::row, t -> t.left(3), NO_SUCH);
    }

    private static void allLeft() {
        Due.sentence(15, "ALL LEFT: of all SLEEPERS together.");
        FirstSeen x = Due.ruledBy("sees 1;worth 99;sleep 0;");
        FirstSeen y = Due.ruledBy("sees 1;worth 0;sleep 9999;");
        for (int s = 0; s <= 5; s++) {
            // A bull, FAR 5, of PRICE 99, to which 99 comes, is the dearest thing that can be.
            Due.is("the most for " + s, x.left(NONE), 406 * s);
            Due.is("the least for " + s, y.left(NONE), -99 * s);
            x.thing(3, 6 * s + 5, 990);
            x.sleeper(6 * s, 1, 0);
            y.sleeper(6 * s, 1, 0);
        }
    }
}
