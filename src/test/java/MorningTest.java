/** Promises 12 to 15: what is seen, who has what, what is left. */
public final class MorningTest {
    private static final int BAD = FirstSeen.BAD, NONE = FirstSeen.NONE, NO_SUCH = -100000;

    public static void main(String[] args) {
        ways();
        heights();
        orderOfSeen();
        shows();
        sees();
        morning();
        worth();
        left();
        refusals();
        Due.end("MorningTest");
    }

    private static void ways() {
        // A thing far up, right, down, left of cell 14 (2, 2), and one in the bed's own cell.
        int[] ends = {2, 17, 32, 12};
        FirstSeen x = new FirstSeen();
        for (int end : ends) {
            x.thing(0, end, 0);
        }
        x.thing(0, 14, 0);
        x.thing(0, 21, 0);
        x.sleeper(14, 0, 0);
        for (int way = 0; way < 4; way++) {
            x.set(4, 0, way);
            Due.is("12: way " + way, x.seen(0, 0), way);
            Due.is("12: nothing else " + way, x.seen(0, 1), NONE);
        }
        // Pictures show from the next cell alone.
        for (int way = 0; way < 4; way++) {
            FirstSeen near = new FirstSeen();
            near.thing(2, new int[] {8, 15, 20, 13}[way], 0);
            near.thing(0, ends[way], 0);
            near.sleeper(14, way, 0);
            Due.is("12: the next cell, way " + way, near.seen(0, 0), 0);
            Due.is("12: the last cell, way " + way, near.seen(0, 1), 1);
        }
        // A line ends with the town and does not go on in the next row.
        x.set(3, 0, 11);
        x.set(4, 0, 1);
        Due.is("12: at the border", x.seen(0, 0), NONE);
        x.set(3, 0, 18);
        x.set(4, 0, 3);
        Due.is("12: at the other border", x.seen(0, 0), NONE);
        x.set(3, 0, 33);
        x.set(4, 0, 2);
        Due.is("12: at the end", x.seen(0, 0), NONE);
        x.set(3, 0, 3);
        x.set(4, 0, 0);
        Due.is("12: at the top", x.seen(0, 0), NONE);
    }

    /** Sees from cell 0 to the right; the heights of cells 0 .. 5; which of 1 .. 5 are seen. */
    private static void look(String heights, String due) {
        FirstSeen x = new FirstSeen();
        for (int i = 0; i < 6; i++) {
            x.town(0, i, heights.charAt(i) - '0');
            if (i > 0) {
                x.thing(0, i, 0);
            }
        }
        x.sleeper(0, 1, 0);
        StringBuilder seen = new StringBuilder();
        for (int i = 0; x.seen(0, i) >= 0 && i < 5; i++) {
            seen.append(x.seen(0, i) + 1);
        }
        Due.holds("12: over " + heights + " one sees " + seen + ", due " + due, seen.toString().equals(due));
    }

    private static void heights() {
        look("000000", "12345");
        look("090000", "1");
        look("999999", "12345");
        look("012345", "12345");
        look("011111", "1");
        look("111111", "12345");
        look("010200", "13");
        look("110200", "123");
        look("320349", "12345");
        look("320439", "12345".replace("4", ""));
        look("020302", "13");
        look("022390", "134");
        look("009000", "12");
        look("500059", "12345");
        look("400509", "1235");
    }

    private static void orderOfSeen() {
        FirstSeen x = new FirstSeen();
        x.thing(0, 5, 0);
        x.thing(0, 2, 0);
        x.thing(5, 1, 0);
        x.thing(0, 2, 0);
        x.thing(1, 4, 0);
        x.thing(0, 1, 0);
        x.sleeper(0, 1, 0);
        int[] due = {2, 5, 1, 3, 4, 0};
        for (int i = 0; i < 6; i++) {
            Due.is("12: nearer ones first " + i, x.seen(0, i), due[i]);
        }
        x.set(5, 0, 2);
        // The walking one is in cell 0 then, where the bed stands.
        Due.is("12: by the minute", x.seen(0, 4), 0);
        Due.is("12: by the minute, the last", x.seen(0, 5), NONE);
        x.set(5, 0, 3);
        Due.is("12: walked round", x.seen(0, 2), 5);
        Due.is("12: walked round, itself", x.seen(0, 1), 4);
    }

    /** Bits: for FAR 1 .. 5 whether a thing of a kind, of NUMBER 3, is seen in a fog. */
    private static int shown(int kind, int fog) {
        int bits = 0;
        for (int far = 1; far < 6; far++) {
            FirstSeen x = new FirstSeen();
            x.thing(kind, 6 * far, 3);
            x.sleeper(0, 2, 0);
            x.town(1, 0, fog);
            bits |= x.seen(0, 0) == 0 ? 1 << far : 0;
        }
        return bits;
    }

    private static void shows() {
        int[] clear = {62, 62, 2, 60, 10, 62};
        for (int kind = 0; kind < 6; kind++) {
            Due.is("12: shows, no fog, kind " + kind, shown(kind, 0), clear[kind]);
            Due.is("12: shows, fog 4, kind " + kind, shown(kind, 4), clear[kind]);
        }
        int[] fog5 = {30, 30, 2, 28, 10, 62};
        int[] fog8 = {2, 2, 2, 0, 10, 62};
        int[] fog9 = {0, 0, 2, 0, 10, 0};
        for (int kind = 0; kind < 6; kind++) {
            Due.is("12: shows, fog 5, kind " + kind, shown(kind, 5), fog5[kind]);
            Due.is("12: shows, fog 8, kind " + kind, shown(kind, 8), fog8[kind]);
            Due.is("12: shows, fog 9, kind " + kind, shown(kind, 9), fog9[kind]);
        }
    }

    private static void ruled(String sees, String due) {
        FirstSeen x = Due.ruledBy("sees " + sees + ";worth 0;sleep 0;");
        for (int i = 1; i < 6; i++) {
            x.thing(0, i, 0);
            x.town(0, i, i - 1);
        }
        x.town(1, 0, 2);
        x.sleeper(30, 0, 0);
        x.sleeper(0, 71, 0);
        StringBuilder seen = new StringBuilder();
        for (int i = 0; x.seen(1, i) >= 0 && i < 5; i++) {
            seen.append(x.seen(1, i));
        }
        Due.holds("12: sees " + sees + " answered " + seen, seen.toString().equals(due));
    }

    private static void sees() {
        ruled("0", "");
        ruled("-3", "01234");
        ruled("far<3", "01");
        ruled("far=4", "3");
        ruled("thing=3", "3");
        ruled("high=2", "2");
        ruled("minute=7", "01234");
        ruled("minute-7", "");
        ruled("fog=2", "01234");
        ruled("one=1", "01234");
        ruled("one=0", "");
        ruled("far*10+thing=32 or high=4", "24");
    }

    private static void morning() {
        FirstSeen x = new FirstSeen();
        x.thing(0, 1, 0);
        x.thing(0, 2, 0);
        x.thing(0, 3, 0);
        x.sleeper(0, 51, 10);
        x.sleeper(0, 51, 20);
        x.sleeper(0, 41, 5);
        x.sleeper(0, 51, 10);
        int[] has = {2, 1, 0, NONE};
        for (int s = 0; s < 4; s++) {
            Due.is("13: has " + s, x.has(s), has[s]);
        }
        Due.is("12: whoever has it", x.seen(3, 0), 0);
        Due.is("14: whose 0", x.whose(0), 2);
        Due.is("14: whose 1", x.whose(1), 1);
        Due.is("14: whose 2", x.whose(2), 0);
        x.set(5, 2, 6);
        Due.is("13: one who wakes last", x.has(2), NONE);
        Due.is("13: the next one", x.has(3), 2);
        x.set(4, 1, 0);
        Due.is("14: one who looks away", x.whose(0), 0);
        x.set(0, 2, 35);
        Due.is("14: a thing elsewhere", x.whose(2), NONE);
        Due.is("13: less to have", x.has(2), NONE);
    }

    /** LEFT with sleep 0 of one that has a thing of a kind, so FAR (NUMBER as told). */
    private static int worthOf(int kind, int price, int number, int far, String worth) {
        FirstSeen x = Due.ruledBy("sees 1;worth " + worth + ";sleep 0;");
        x.thing(kind, far, 10 * price + number);
        x.sleeper(0, 1, 0);
        Due.is("15: it has it", x.has(0), 0);
        return x.left(0);
    }

    private static void worth() {
        Due.is("15: THING", worthOf(0, 40, 0, 3, "0"), 40);
        Due.is("15: WALKING", worthOf(1, 40, 7, 3, "0"), 43);
        Due.is("15: PICTURE", worthOf(2, 41, 0, 1, "0"), 20);
        Due.is("15: BULL", worthOf(3, 40, 0, 3, "0"), 86);
        Due.is("15: FRAMED", worthOf(4, 41, 3, 3, "0"), 23);
        Due.is("15: FRAMED near", worthOf(4, 41, 9, 1, "0"), 29);
        Due.is("15: HILL", worthOf(5, 40, 0, 3, "0"), 37);
        Due.is("15: comes to PRICE", worthOf(0, 40, 0, 3, "5"), 45);
        Due.is("15: the upper bound", worthOf(0, 40, 0, 3, "100"), 139);
        Due.is("15: far above it", worthOf(3, 99, 0, 5, "9999*9999*10"), 406);
        Due.is("15: the lower bound", worthOf(1, 99, 0, 3, "-100"), 3);
        Due.is("15: far below it", worthOf(1, 99, 0, 5, "-9999*9999*10"), 5);
        Due.is("15: just on it", worthOf(1, 99, 0, 3, "-99"), 3);
        Due.is("15: below 0 it is 0", worthOf(0, 5, 0, 3, "-9"), 0);
        Due.is("15: HILL below 0", worthOf(5, 2, 0, 3, "0"), 0);
        Due.is("15: WALKING from below 0", worthOf(1, 0, 0, 3, "-2"), 1);
        Due.is("15: BULL from below 0", worthOf(3, 0, 0, 3, "-2"), 2);
        Due.is("15: BULL below 0", worthOf(3, 0, 0, 3, "-4"), 0);
        Due.is("15: FRAMED, cut toward 0", worthOf(4, 0, 9, 1, "-5"), 7);
        Due.is("15: PICTURE, cut", worthOf(2, 0, 0, 1, "-5"), 0);
        Due.is("15: by names", worthOf(0, 0, 0, 4, "far*10+thing+one+high+minute+fog"), 40);
    }

    private static void left() {
        FirstSeen x = Due.ruledBy("sees 1;worth high*10+minute+one+fog;sleep minute*2+one*10+fog+far;");
        x.thing(0, 2, 100);
        x.thing(5, 7, 200);
        x.town(0, 2, 3);
        x.town(1, 0, 1);
        x.sleeper(0, 31, 0);
        x.sleeper(6, 41, 0);
        x.sleeper(30, 10, 0);
        Due.is("15: first", x.left(0), 10 + 30 + 3 + 0 + 1 - 6);
        Due.is("15: second", x.left(1), 20 + 4 + 1 + 1 - 1 - 18);
        Due.is("15: has none", x.left(2), -22);
        Due.is("15: all", x.left(-1), 38 + 7 - 22);
        FirstSeen y = Due.ruledBy("sees 1;worth 0;sleep 0-9999;");
        y.sleeper(0, 0, 0);
        Due.is("15: sleep costs 0 at least", y.left(0), 0);
    }

    private static void refusals() {
        FirstSeen x = new FirstSeen();
        x.thing(0, 1, 0);
        x.sleeper(0, 0, 0);
        for (int wrong : new int[] {-2, 1, 5, Integer.MAX_VALUE, Integer.MIN_VALUE}) {
            Due.is("12: BAD " + wrong, x.seen(wrong, 0), BAD);
            Due.is("13: BAD " + wrong, x.has(wrong), BAD);
            Due.is("14: BAD " + wrong, x.whose(wrong), BAD);
            Due.is("15: none such " + wrong, x.left(wrong), NO_SUCH);
        }
        Due.is("12: NONE is no sleeper", x.seen(-1, 0), BAD);
        Due.is("13: NONE is no sleeper", x.has(-1), BAD);
        Due.is("14: NONE is no thing", x.whose(-1), BAD);
        Due.is("12: i below", x.seen(0, -1), BAD);
        Due.is("12: i above", x.seen(0, 6), BAD);
        Due.is("12: the last i", x.seen(0, 5), NONE);
    }
}
