/** Promises 1 to 8: a new object, the town, things, sleepers. */
public final class TownTest {
    private static final int BAD = FirstSeen.BAD, FULL = FirstSeen.FULL;

    public static void main(String[] args) {
        aNewObject();
        town();
        high();
        thing();
        sleeper();
        set();
        told();
        where();
        Due.end("TownTest");
    }

    private static void aNewObject() {
        FirstSeen x = new FirstSeen();
        int[] counts = {0, 0, 0, 0, 1, 0, 0};
        for (int what = 0; what < 7; what++) {
            Due.is("1: count " + what, x.count(what), counts[what]);
        }
        for (int c = 0; c < 36; c++) {
            Due.is("1: high " + c, x.high(c), 0);
        }
        for (int s = 0; s < 4; s++) {
            Due.is("1: judge " + s, x.judge(s), -11);
        }
        Due.is("1: has", x.has(0), BAD);
        Due.is("1: whose", x.whose(0), BAD);
        Due.is("1: left", x.left(-1), 0);
        Due.is("1: back", x.back(), FirstSeen.STATE);
        FirstSeen other = new FirstSeen();
        other.town(0, 3, 4);
        Due.is("1: objects share nothing", x.high(3), 0);
    }

    private static void town() {
        FirstSeen x = new FirstSeen();
        Due.is("2: build", x.town(0, 35, 9), 0);
        Due.is("2: build anew", x.town(0, 35, 4), 9);
        Due.is("2: build there", x.high(35), 4);
        Due.is("2: build first", x.town(0, 0, 1), 0);
        Due.is("2: fog", x.town(1, -77, 9), 0);
        Due.is("2: fog anew", x.town(1, 99, 3), 9);
        int[][] wrong = {{-1, 0, 0}, {2, 0, 0}, {0, -1, 0}, {0, 36, 0}, {0, 0, -1}, {0, 0, 10},
            {1, 0, -1}, {1, 0, 10}, {Integer.MIN_VALUE, 0, 0}, {0, Integer.MAX_VALUE, 0}};
        for (int[] w : wrong) {
            Due.is("2: BAD " + w[0] + " " + w[1] + " " + w[2], x.town(w[0], w[1], w[2]), BAD);
        }
        Due.is("2: BAD changes no cell", x.high(0), 1);
        Due.is("2: BAD changes no fog", x.count(3), 3);
    }

    private static void high() {
        FirstSeen x = new FirstSeen();
        for (int c = 0; c < 36; c++) {
            x.town(0, c, c % 10);
        }
        for (int c = 0; c < 36; c++) {
            Due.is("3: high " + c, x.high(c), c % 10);
        }
        Due.is("3: below", x.high(-1), BAD);
        Due.is("3: above", x.high(36), BAD);
        Due.is("3: far below", x.high(Integer.MIN_VALUE), BAD);
    }

    private static void thing() {
        FirstSeen x = new FirstSeen();
        int[][] wrong = {{-1, 0, 0}, {6, 0, 0}, {0, -1, 0}, {0, 36, 0}, {0, 0, -1}, {0, 0, 1000},
            {0, 0, -10}, {0, 0, Integer.MIN_VALUE}, {0, 0, Integer.MAX_VALUE}};
        for (int[] w : wrong) {
            Due.is("4: BAD " + w[0] + " " + w[1] + " " + w[2], x.thing(w[0], w[1], w[2]), BAD);
        }
        Due.is("4: BAD makes none", x.count(1), 0);
        int[] what = {0, 9, 10, 999, 505, 90};
        for (int i = 0; i < 6; i++) {
            Due.is("4: thing " + i, x.thing(i, 35 - i, what[i]), i);
            Due.is("4: home", x.told(i, 0), 35 - i);
            Due.is("4: price", x.told(i, 1), what[i] / 10);
            Due.is("4: number", x.told(i, 2), what[i] % 10);
            Due.is("4: kind", x.told(i, 3), i);
        }
        Due.is("4: FULL", x.thing(0, 0, 0), FULL);
        Due.is("4: BAD ahead of FULL", x.thing(6, 0, 0), BAD);
        Due.is("4: six at most", x.count(1), 6);
    }

    private static void sleeper() {
        FirstSeen x = new FirstSeen();
        int[][] wrong = {{-1, 0, 0}, {36, 0, 0}, {0, -1, 0}, {0, 4, 0}, {0, 9, 0}, {0, 234, 0},
            {0, 240, 0}, {0, -7, 0}, {0, Integer.MIN_VALUE, 0}, {0, 0, -1}, {0, 0, 100}};
        for (int[] w : wrong) {
            Due.is("5: BAD " + w[0] + " " + w[1] + " " + w[2], x.sleeper(w[0], w[1], w[2]), BAD);
        }
        Due.is("5: BAD makes none", x.count(0), 0);
        int[] what = {0, 233, 11, 120, 32};
        for (int i = 0; i < 5; i++) {
            Due.is("5: sleeper " + i, x.sleeper(35 - i, what[i], 99 - i), i);
            Due.is("5: cell", x.told(i, 4), 35 - i);
            Due.is("5: way", x.told(i, 5), what[i] % 10);
            Due.is("5: wakes", x.told(i, 6), what[i] / 10);
            Due.is("5: age", x.told(i, 7), 99 - i);
        }
        Due.is("5: FULL", x.sleeper(0, 0, 0), FULL);
        Due.is("5: BAD ahead of FULL", x.sleeper(0, 0, 100), BAD);
        Due.is("5: five at most", x.count(0), 5);
    }

    private static void set() {
        FirstSeen x = new FirstSeen();
        x.thing(1, 2, 345);
        x.thing(0, 0, 0);
        x.sleeper(7, 93, 8);
        int[] was = {2, 34, 5, 7, 3, 9};
        int[] most = {35, 99, 9, 35, 3, 23};
        int[] row = {0, 1, 2, 4, 5, 6};
        for (int what = 0; what < 6; what++) {
            Due.is("6: what it was " + what, x.set(what, 0, most[what]), was[what]);
            Due.is("6: above " + what, x.set(what, 0, most[what] + 1), BAD);
            Due.is("6: below " + what, x.set(what, 0, -1), BAD);
            Due.is("6: no such one " + what, x.set(what, -1, 0), BAD);
            Due.is("6: none so high " + what, x.set(what, what < 3 ? 2 : 1, 0), BAD);
            Due.is("6: BAD changes nothing " + what, x.told(0, row[what]), most[what]);
            Due.is("6: 0 is fine " + what, x.set(what, 0, 0), most[what]);
        }
        Due.is("6: what below", x.set(-1, 0, 0), BAD);
        Due.is("6: what above", x.set(6, 0, 0), BAD);
        Due.is("6: the kind stays", x.told(0, 3), 1);
        Due.is("6: the age stays", x.told(0, 7), 8);
        Due.is("6: others stay", x.told(1, 0), 0);
    }

    private static void told() {
        FirstSeen x = new FirstSeen();
        x.thing(0, 0, 0);
        x.thing(3, 31, 789);
        x.sleeper(0, 0, 0);
        x.sleeper(13, 172, 61);
        int[] due = {31, 78, 9, 3, 13, 2, 17, 61};
        for (int what = 0; what < 8; what++) {
            Due.is("7: told " + what, x.told(1, what), due[what]);
            Due.is("7: first " + what, x.told(0, what), 0);
            Due.is("7: none such " + what, x.told(2, what), BAD);
            Due.is("7: below " + what, x.told(-1, what), BAD);
        }
        Due.is("7: what below", x.told(0, -1), BAD);
        Due.is("7: what above", x.told(0, 8), BAD);
    }

    private static void where() {
        FirstSeen x = new FirstSeen();
        int[] numbers = {3, 0, 9, 2, 1, 4};
        for (int kind = 0; kind < 6; kind++) {
            x.thing(kind, 22, numbers[kind]);
        }
        for (int m = 0; m < 24; m++) {
            Due.is("8: THING " + m, x.where(0, m), 22);
            Due.is("8: WALKING " + m, x.where(1, m), 18 + (4 + m) % 6);
            Due.is("8: PICTURE " + m, x.where(2, m), 22);
            Due.is("8: BULL " + m, x.where(3, m), m % 2 == 1 ? 22 : 18 + (4 + m / 3) % 6);
            Due.is("8: FRAMED " + m, x.where(4, m), 22);
            Due.is("8: HILL " + m, x.where(5, m), 22);
        }
        x.set(2, 1, 9);
        Due.is("8: slow, early", x.where(1, 9), 22);
        Due.is("8: slow, late", x.where(1, 10), 23);
        Due.is("8: slow, round", x.where(1, 20), 18);
        Due.is("8: no such thing", x.where(6, 0), BAD);
        Due.is("8: below", x.where(-1, 0), BAD);
        Due.is("8: no such minute", x.where(0, 24), BAD);
        Due.is("8: minute below", x.where(0, -1), BAD);
    }
}
