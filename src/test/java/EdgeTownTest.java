import java.util.function.IntUnaryOperator;

/** Sentences of "Terms" and of promises 1 to 8 that name a bound, or refuse, on both its sides. */
public final class EdgeTownTest {
    private static final int NONE = FirstSeen.NONE, BAD = FirstSeen.BAD, FULL = FirstSeen.FULL;
    private static final int MIN = Integer.MIN_VALUE, MAX = Integer.MAX_VALUE;

    public static void main(String[] args) {
        constants();
        nobody();
        town();
        high();
        thing();
        thingsAreFull();
        sleeper();
        sleepersAreFull();
        set();
        setOfWhom();
        told();
        where();
        whereByMinutes();
        lastCall();
        Due.end("EdgeTownTest");
    }

    /** The call is refused just outside of least .. most, and far outside. */
    private static void refusedOutside(String what, IntUnaryOperator call, int least, int most) {
        for (int v : new int[] {least - 1, most + 1, MIN, MIN + 1, MAX - 1, MAX}) {
            Due.is(what + " of " + v, call.applyAsInt(v), BAD);
        }
    }

    /** Two things and one sleeper, an image, a sheet, a begun text, heights and fog. */
    private static void settled(FirstSeen x) {
        x.thing(1, 9, 302);
        x.thing(4, 8, 405);
        x.sleeper(6, 51, 40);
        x.town(0, 7, 2);
        x.town(1, 0, 1);
        x.image();
        x.town(0, 35, 9);
        x.set(3, 0, 7);
        x.sheet(2, 1, 3);
        x.cell(2, 1, 7);
        for (char c : "sees 1;worth 5;sleep 1;".toCharArray()) {
            x.feed(c);
        }
    }

    private static void full(FirstSeen x) {
        settled(x);
        for (int i = 2; i < 6; i++) {
            x.thing(0, i, 10 * i);
        }
        for (int i = 1; i < 5; i++) {
            x.sleeper(i * 6, i * 10, i);
        }
    }

    private static void constants() {
        Due.sentence(1, "NONE is -1; NO, where a long is answered, -4611686018427387904.");
        Due.is("NONE", NONE, -1);
        Due.is("NO", FirstSeen.NO, -(1L << 62));
        Due.sentence(1, "BAD (-2: a number is none such or not as told), STATE (-3), FULL (-4)");
        Due.is("BAD", BAD, -2);
        Due.is("STATE", FirstSeen.STATE, -3);
        Due.is("FULL", FULL, -4);
    }

    private static void nobody() {
        Due.sentence(1, "A flat town, nobody.");
        FirstSeen x = new FirstSeen();
        for (int c = 0; c < 36; c++) {
            Due.is("high " + c, x.high(c), 0);
        }
        int[] counts = {0, 0, 0, 0, 1, 0, 0};
        for (int what = 0; what < 7; what++) {
            Due.is("count " + what, x.count(what), counts[what]);
        }
        for (int what = 0; what < 8; what++) {
            Due.is("told of none " + what, x.told(0, what), BAD);
        }
        for (int what = 0; what < 6; what++) {
            Due.is("set of none " + what, x.set(what, 0, 0), BAD);
        }
        Due.is("where of none", x.where(0, 0), BAD);
        Due.is("seen of none", x.seen(0, 0), BAD);
        Due.is("has of none", x.has(0), BAD);
        Due.is("whose of none", x.whose(0), BAD);
        Due.is("left of none", x.left(0), -100000);
        Due.is("left of all", x.left(NONE), 0);
        Due.is("best of none", x.best(0, 0, 0), -100000);
        Due.is("turn of none", x.turn(0), -100000);
        Due.is("rest", x.rest(), 1);
        Due.is("beds, all left", x.beds(0), 0);
        Due.is("beds, digits", x.beds(1), 0);
        Due.is("wall of none", x.wall(0, 1), BAD);
        Due.is("fell of none", x.fell(0), BAD);
        Due.is("drawn", x.drawn(0), 0);
        Due.is("chance of none", x.chance(0, 1, 0, 0), FirstSeen.NO);
        Due.is("taken of none", x.taken(0, 0), -11);
        Due.is("back", x.back(), FirstSeen.STATE);
        for (int s = 0; s < 4; s++) {
            Due.is("a missing sheet " + s, x.cell(s, 0, 0), -11);
        }
        FirstSeen y = new FirstSeen();
        settled(x);
        Due.is("another object stays flat", y.count(2), 0);
        Due.is("and empty", y.count(1), 0);
    }

    private static void town() {
        Due.sentence(2, "CELLS (y, x), y 0 .. 5, x 0 .. 5, as numbers 6 times y, and x, each so HIGH (0 .. 9; 0 at first).");
        FirstSeen x = new FirstSeen();
        for (int c = 0; c < 36; c++) {
            Due.is("0 at first, " + c, x.town(0, c, 9), 0);
            Due.is("9 then, " + c, x.town(0, c, 0), 9);
            Due.is("0 again, " + c, x.town(0, c, 1), 0);
        }
        refusedOutside("a cell", c -> x.town(0, c, 0), 0, 35);
        refusedOutside("as high", v -> x.town(0, 0, v), 0, 9);
        refusedOutside("the last cell as high", v -> x.town(0, 35, v), 0, 9);
        Due.is("no refusal built", x.count(2), 36);
        x.thing(0, 8, 0);
        x.sleeper(6, 1, 0);
        Due.is("6 times y, and x: cell 8 is in the row of 6", x.seen(0, 0), 0);
        Due.sentence(2, "FOG (0 .. 9; 0 at first)");
        Due.is("0 at first", x.count(3), 0);
        Due.is("the most", x.town(1, 0, 9), 0);
        Due.is("the least", x.town(1, 0, 0), 9);
        Due.is("in between", x.town(1, 0, 4), 0);
        refusedOutside("a fog", v -> x.town(1, 0, v), 0, 9);
        Due.is("it stays by refusals", x.count(3), 4);
        Due.sentence(2, "FOG is v (1; of does not matter): what it was. BAD.");
        int was = 4;
        for (int of : new int[] {-1, 35, 36, MIN, MAX}) {
            Due.is("of " + of, x.town(1, of, (was + 1) % 10), was);
            was = (was + 1) % 10;
            Due.is("of " + of + ", too thick", x.town(1, of, 10), BAD);
        }
        refusedOutside("what", what -> x.town(what, 0, 0), 0, 1);
        Twin.unchanged("a cell outside", EdgeTownTest::settled, t -> t.town(0, 36, 5), BAD);
        Twin.unchanged("too high", EdgeTownTest::settled, t -> t.town(0, 7, 10), BAD);
        Twin.unchanged("too thick", EdgeTownTest::settled, t -> t.town(1, 7, 10), BAD);
        Twin.unchanged("what", EdgeTownTest::settled, t -> t.town(2, 7, 5), BAD);
    }

    private static void high() {
        Due.sentence(3, "How HIGH a CELL is. BAD.");
        FirstSeen x = new FirstSeen();
        x.town(0, 0, 9);
        x.town(0, 35, 8);
        Due.is("the first", x.high(0), 9);
        Due.is("the last", x.high(35), 8);
        refusedOutside("a cell", x::high, 0, 35);
        Twin.unchanged("asking", EdgeTownTest::settled, t -> t.high(7), 2);
        Twin.unchanged("asking outside", EdgeTownTest::settled, t -> t.high(36), BAD);
    }

    private static void thing() {
        Due.sentence(4, "A THING (what: 10 times PRICE, and NUMBER): its number. BAD; FULL.");
        FirstSeen x = new FirstSeen();
        Due.is("PRICE 0, NUMBER 0", x.thing(0, 0, 0), 0);
        Due.is("PRICE 0, NUMBER 9", x.thing(0, 0, 9), 1);
        Due.is("PRICE 1, NUMBER 0", x.thing(0, 0, 10), 2);
        Due.is("PRICE 99, NUMBER 9", x.thing(5, 35, 999), 3);
        int[][] due = {{0, 0}, {0, 9}, {1, 0}, {99, 9}};
        for (int t = 0; t < 4; t++) {
            Due.is("PRICE of " + t, x.told(t, 1), due[t][0]);
            Due.is("NUMBER of " + t, x.told(t, 2), due[t][1]);
        }
        refusedOutside("what", what -> x.thing(0, 0, what), 0, 999);
        for (int number = 0; number < 10; number++) {
            Due.is("PRICE 100, NUMBER " + number, x.thing(0, 0, 1000 + number), BAD);
            Due.is("what below 0", x.thing(0, 0, -1 - number), BAD);
        }
        Due.sentence(4, "have a KIND: 0 THING, 1 WALKING under THING, 2 PICTURE under THING, 3 BULL under WALKING, 4 FRAMED under PICTURE, 5 HILL under THING");
        Due.is("KIND 0", x.told(0, 3), 0);
        Due.is("KIND 5", x.told(3, 3), 5);
        refusedOutside("a KIND", kind -> x.thing(kind, 0, 0), 0, 5);
        Due.sentence(4, "a NUMBER (0 .. 9), a HOME CELL, a PRICE (0 .. 99).");
        Due.is("HOME 0", x.told(0, 0), 0);
        Due.is("HOME 35", x.told(3, 0), 35);
        refusedOutside("a HOME", home -> x.thing(0, home, 0), 0, 35);
        Due.is("no refusal made one", x.count(1), 4);
        Twin.unchanged("a KIND above", EdgeTownTest::settled, t -> t.thing(6, 0, 0), BAD);
        Twin.unchanged("a HOME below", EdgeTownTest::settled, t -> t.thing(0, -1, 0), BAD);
        Twin.unchanged("a PRICE above", EdgeTownTest::settled, t -> t.thing(0, 0, 1000), BAD);
        Twin.unchanged("a NUMBER below", EdgeTownTest::settled, t -> t.thing(0, 0, -1), BAD);
    }

    private static void thingsAreFull() {
        Due.sentence(4, "THINGS (6 at most, numbered from 0)");
        FirstSeen x = new FirstSeen();
        for (int i = 0; i < 6; i++) {
            Due.is("how many ahead of " + i, x.count(1), i);
            Due.is("none such yet", x.told(i, 0), BAD);
            Due.is("number " + i, x.thing(5 - i, i, i), i);
            Due.is("it is there", x.told(i, 0), i);
        }
        Due.is("a seventh", x.thing(0, 0, 0), FULL);
        Due.is("six", x.count(1), 6);
        Due.is("none such ever", x.told(6, 0), BAD);
        Due.is("sleepers have room yet", x.sleeper(0, 0, 0), 0);
        Due.sentence(4, "Refusals, the first that the call's words name; they change nothing");
        Twin.unchanged("FULL", EdgeTownTest::full, t -> t.thing(0, 0, 0), FULL);
        Twin.unchanged("BAD ahead of FULL, KIND", EdgeTownTest::full, t -> t.thing(6, 0, 0), BAD);
        Twin.unchanged("BAD ahead of FULL, HOME", EdgeTownTest::full, t -> t.thing(0, 36, 0), BAD);
        Twin.unchanged("BAD ahead of FULL, what", EdgeTownTest::full, t -> t.thing(0, 0, 1000), BAD);
        Due.is("room again by an image", roomAgain(), 5);
    }

    /** A thing that goes by back() leaves its number to the next one. */
    private static int roomAgain() {
        FirstSeen x = new FirstSeen();
        for (int i = 0; i < 5; i++) {
            x.thing(0, i, 0);
        }
        x.image();
        Due.is("the sixth", x.thing(0, 5, 0), 5);
        Due.is("full", x.thing(0, 5, 0), FULL);
        x.back();
        return x.thing(3, 6, 0);
    }

    private static void sleeper() {
        Due.sentence(5, "A SLEEPER (what: 10 times WAKES, and WAY): the number. BAD; FULL.");
        FirstSeen x = new FirstSeen();
        Due.is("MINUTE 0, WAY 0", x.sleeper(0, 0, 0), 0);
        Due.is("MINUTE 0, WAY 3", x.sleeper(35, 3, 99), 1);
        Due.is("MINUTE 23, WAY 0", x.sleeper(0, 230, 0), 2);
        Due.is("MINUTE 23, WAY 3", x.sleeper(35, 233, 99), 3);
        int[][] due = {{0, 0}, {0, 3}, {23, 0}, {23, 3}};
        for (int s = 0; s < 4; s++) {
            Due.is("WAKES of " + s, x.told(s, 6), due[s][0]);
            Due.is("WAY of " + s, x.told(s, 5), due[s][1]);
            Due.is("CELL of " + s, x.told(s, 4), s % 2 * 35);
            Due.is("AGE of " + s, x.told(s, 7), s % 2 * 99);
        }
        refusedOutside("what", what -> x.sleeper(0, what, 0), 0, 233);
        Due.sentence(5, "WAYS 0 y less, 1 x more, 2 y more, 3 x less. MINUTES 0 .. 23.");
        for (int m = 0; m < 24; m++) {
            for (int way = 4; way < 10; way++) {
                Due.is("MINUTE " + m + ", WAY " + way, x.sleeper(0, 10 * m + way, 0), BAD);
            }
        }
        for (int way = 0; way < 10; way++) {
            Due.is("MINUTE 24, WAY " + way, x.sleeper(0, 240 + way, 0), BAD);
            Due.is("MINUTE below 0", x.sleeper(0, -1 - way, 0), BAD);
        }
        Due.sentence(5, "SLEEPERS (5 at most, numbered from 0): a CELL, a WAY, WAKES (a MINUTE), an AGE (0 .. 99).");
        refusedOutside("a CELL", cell -> x.sleeper(cell, 0, 0), 0, 35);
        refusedOutside("an AGE", age -> x.sleeper(0, 0, age), 0, 99);
        Due.is("no refusal made one", x.count(0), 4);
        Twin.unchanged("a CELL above", EdgeTownTest::settled, t -> t.sleeper(36, 0, 0), BAD);
        Twin.unchanged("a WAY above", EdgeTownTest::settled, t -> t.sleeper(0, 4, 0), BAD);
        Twin.unchanged("a MINUTE above", EdgeTownTest::settled, t -> t.sleeper(0, 240, 0), BAD);
        Twin.unchanged("an AGE above", EdgeTownTest::settled, t -> t.sleeper(0, 0, 100), BAD);
    }

    private static void sleepersAreFull() {
        Due.sentence(5, "SLEEPERS (5 at most, numbered from 0)");
        FirstSeen x = new FirstSeen();
        for (int i = 0; i < 5; i++) {
            Due.is("how many ahead of " + i, x.count(0), i);
            Due.is("none such yet", x.told(i, 4), BAD);
            Due.is("number " + i, x.sleeper(i, 10 * i, i), i);
            Due.is("it is there", x.told(i, 4), i);
        }
        Due.is("a sixth", x.sleeper(0, 0, 0), FULL);
        Due.is("five", x.count(0), 5);
        Due.is("none such ever", x.told(5, 4), BAD);
        Due.is("things have room yet", x.thing(0, 0, 0), 0);
        Due.sentence(5, "Refusals, the first that the call's words name; they change nothing");
        Twin.unchanged("FULL", EdgeTownTest::full, t -> t.sleeper(0, 0, 0), FULL);
        Twin.unchanged("BAD ahead of FULL, CELL", EdgeTownTest::full, t -> t.sleeper(-1, 0, 0), BAD);
        Twin.unchanged("BAD ahead of FULL, what", EdgeTownTest::full, t -> t.sleeper(0, 4, 0), BAD);
        Twin.unchanged("BAD ahead of FULL, AGE", EdgeTownTest::full, t -> t.sleeper(0, 0, 100), BAD);
        FirstSeen y = new FirstSeen();
        for (int i = 0; i < 4; i++) {
            y.sleeper(i, 0, 0);
        }
        y.image();
        Due.is("the fifth", y.sleeper(4, 0, 0), 4);
        Due.is("full", y.sleeper(5, 0, 0), FULL);
        y.back();
        Due.is("room again by an image", y.sleeper(6, 11, 77), 4);
        Due.is("the new one's AGE", y.told(4, 7), 77);
    }

    private static void set() {
        Due.sentence(6, "HOME (what 0), PRICE (1), NUMBER (2) of a THING, CELL (3), WAY (4), WAKES (5) of a SLEEPER becomes v: what it was. BAD.");
        int[] most = {35, 99, 9, 35, 3, 23};
        int[] row = {0, 1, 2, 4, 5, 6};
        for (int w = 0; w < 6; w++) {
            FirstSeen x = new FirstSeen();
            full(x);
            int what = w;
            int last = what < 3 ? 5 : 4;
            for (int of = 0; of <= last; of++) {
                int one = of;
                int was = x.told(of, row[what]);
                Due.is("the least, what " + what + " of " + of, x.set(what, of, 0), was);
                Due.is("became the least", x.told(of, row[what]), 0);
                refusedOutside("the least stays, what " + what, v -> x.set(what, one, v), 0, most[what]);
                Due.is("the most, what " + what + " of " + of, x.set(what, of, most[what]), 0);
                Due.is("became the most", x.told(of, row[what]), most[what]);
                refusedOutside("the most stays, what " + what, v -> x.set(what, one, v), 0, most[what]);
                Due.is("stays so, what " + what, x.told(of, row[what]), most[what]);
            }
            refusedOutside("of whom, what " + what, of -> x.set(what, of, 0), 0, last);
            refusedOutside("what", no -> x.set(no, 0, 0), 0, 5);
            for (int t = 0; t < 6; t++) {
                Due.is("the KIND stays, " + t, x.told(t, 3), t == 0 ? 1 : t == 1 ? 4 : 0);
            }
            for (int s = 0; s < 5; s++) {
                Due.is("the AGE stays, " + s, x.told(s, 7), s == 0 ? 40 : s);
            }
        }
        for (int w = -1; w < 7; w++) {
            int what = w;
            Twin.unchanged("v below, what " + w, EdgeTownTest::settled, t -> t.set(what, 0, -1), BAD);
            Twin.unchanged("v above, what " + w, EdgeTownTest::settled, t -> t.set(what, 0, 100), BAD);
            Twin.unchanged("of whom, what " + w, EdgeTownTest::settled, t -> t.set(what, 2, 0), BAD);
        }
    }

    private static void setOfWhom() {
        Due.sentence(6, "of a THING, CELL (3), WAY (4), WAKES (5) of a SLEEPER becomes v");
        FirstSeen x = new FirstSeen();
        settled(x);
        for (int what = 0; what < 6; what++) {
            Due.is("two THINGS, one SLEEPER, number 1, what " + what, x.set(what, 1, 0) >= 0 ? 1 : BAD,
                    what < 3 ? 1 : BAD);
            Due.is("number 2, what " + what, x.set(what, 2, 0), BAD);
        }
        FirstSeen y = new FirstSeen();
        y.sleeper(0, 0, 0);
        for (int what = 0; what < 6; what++) {
            Due.is("SLEEPERS alone, what " + what, y.set(what, 0, 1), what < 3 ? BAD : 0);
        }
    }

    private static void told() {
        Due.sentence(7, "Of a THING: 0 HOME, 1 PRICE, 2 NUMBER, 3 KIND; of a SLEEPER: 4 CELL, 5 WAY, 6 WAKES, 7 AGE. BAD.");
        FirstSeen x = new FirstSeen();
        full(x);
        for (int w = 0; w < 8; w++) {
            int what = w;
            int last = what < 4 ? 5 : 4;
            for (int of = 0; of <= last; of++) {
                Due.holds("told " + of + " " + what, x.told(of, what) >= 0);
            }
            refusedOutside("of whom, what " + what, of -> x.told(of, what), 0, last);
        }
        for (int of = 0; of < 5; of++) {
            int one = of;
            refusedOutside("what of " + of, what -> x.told(one, what), 0, 7);
        }
        FirstSeen y = new FirstSeen();
        y.thing(5, 35, 999);
        y.thing(0, 0, 0);
        y.sleeper(34, 232, 98);
        int[] due = {35, 99, 9, 5, 34, 2, 23, 98};
        for (int what = 0; what < 8; what++) {
            Due.is("told " + what, y.told(0, what), due[what]);
            Due.is("told of number 1, " + what, y.told(1, what), what < 4 ? 0 : BAD);
        }
        Twin.unchanged("asking", EdgeTownTest::settled, t -> t.told(0, 7), 40);
        Twin.unchanged("asking of none", EdgeTownTest::settled, t -> t.told(1, 7), BAD);
    }

    private static void where() {
        Due.sentence(8, "Of a THING: WHERE it is in a MINUTE. BAD.");
        FirstSeen x = new FirstSeen();
        full(x);
        refusedOutside("a THING", t -> x.where(t, 0), 0, 5);
        refusedOutside("a MINUTE", m -> x.where(0, m), 0, 23);
        refusedOutside("a MINUTE of the last", m -> x.where(5, m), 0, 23);
        Due.is("the last THING", x.where(5, 0), 5);
        FirstSeen y = new FirstSeen();
        settled(y);
        Due.is("number 1 of two", y.where(1, 23), 8);
        Due.is("number 2 of two", y.where(2, 23), BAD);
        Twin.unchanged("asking", EdgeTownTest::settled, t -> t.where(0, 23), 10);
        Twin.unchanged("asking too late", EdgeTownTest::settled, t -> t.where(0, 24), BAD);
    }

    private static void lastCall() {
        Due.sentence(1, "An object is used for at most 512 calls after it has been made");
        FirstSeen x = new FirstSeen();
        x.thing(0, 1, 0);
        x.sleeper(0, 1, 0);
        x.image();
        int calls = 3;
        while (calls < 506) {
            Due.is("price of call " + calls, x.set(1, 0, (calls + 1) % 100), calls == 3 ? 0 : calls % 100);
            calls++;
        }
        Due.is("the last six, one", x.turn(0), 6);
        Due.is("two", x.told(0, 6), 23);
        Due.is("three", x.beds(0), 6);
        Due.is("four", x.rest(), 1);
        Due.is("five", x.back(), 1);
        Due.is("the last one", x.left(0), -23);
    }

    private static void whereByMinutes() {
        Due.sentence(8, "WALKING: of the six CELLS of HOME's row that one which is (HOME's x, and m by (NUMBER and 1), cut) modulo 6");
        for (int home = 0; home < 36; home++) {
            for (int number = 0; number < 10; number++) {
                FirstSeen x = new FirstSeen();
                x.thing(1, home, number);
                x.thing(3, home, 990 + number);
                int cell = home;
                int since = 0;
                for (int m = 0; m < 24; m++) {
                    Due.is("home " + home + ", number " + number + ", minute " + m, x.where(0, m), cell);
                    Due.is("BULL so, but in HOME, if m is odd", x.where(1, m), m % 2 == 0 ? cell : home);
                    since++;
                    if (since == number + 1) {
                        since = 0;
                        cell = cell % 6 == 5 ? cell - 5 : cell + 1;
                    }
                }
            }
        }
        Due.sentence(8, "PICTURE, HILL as a THING; BULL: as a WALKING, but in HOME, if m is odd; FRAMED as a PICTURE.");
        FirstSeen x = new FirstSeen();
        int[] still = {0, 2, 4, 5};
        for (int kind : still) {
            x.thing(kind, 35 - kind, 0);
        }
        for (int i = 0; i < 4; i++) {
            for (int m = 0; m < 24; m++) {
                Due.is("KIND " + still[i] + " in " + m, x.where(i, m), 35 - still[i]);
            }
        }
    }
}
