/** Sentences of "Terms" on how far and in which fog each KIND shows, and what it is worth. */
public final class EdgeKindTest {
    private static final int NONE = FirstSeen.NONE;
    private static final int THING = 0, WALKING = 1, PICTURE = 2, BULL = 3, FRAMED = 4, HILL = 5;

    public static void main(String[] args) {
        shows();
        worth();
        worthInTheEnd();
        worthBounds();
        sleepBounds();
        Due.end("EdgeKindTest");
    }

    /** Whether a thing of a kind, with a NUMBER, shows so FAR in a fog; it stands in minute 0. */
    private static int shown(int kind, int number, int far, int fog) {
        FirstSeen x = new FirstSeen();
        x.thing(kind, far, number);
        x.sleeper(0, 1, 0);
        x.town(1, 0, fog);
        int seen = x.seen(0, 0);
        Due.is("what is seen is had", x.has(0), seen);
        return seen == NONE ? 0 : 1;
    }

    private static void shows() {
        Due.sentence(12, "THING: if FAR is no more than 9 less f;");
        for (int far = 1; far < 6; far++) {
            Due.is("FAR " + far + ", just thin enough", shown(THING, 0, far, 9 - far), 1);
            Due.is("FAR " + far + ", just too thick", shown(THING, 0, far, 10 - far), 0);
            Due.is("FAR " + far + ", no fog", shown(THING, 0, far, 0), 1);
            Due.is("FAR " + far + ", thickest fog", shown(THING, 0, far, 9), 0);
        }
        Due.sentence(12, "WALKING as a THING;");
        for (int far = 1; far < 6; far++) {
            Due.is("FAR " + far + ", just thin enough", shown(WALKING, 9, far, 9 - far), 1);
            Due.is("FAR " + far + ", just too thick", shown(WALKING, 9, far, 10 - far), 0);
        }
        Due.sentence(12, "PICTURE: if FAR is 1;");
        Due.is("FAR 1, no fog", shown(PICTURE, 3, 1, 0), 1);
        Due.is("FAR 1, thickest fog", shown(PICTURE, 3, 1, 9), 1);
        Due.is("FAR 2, no fog", shown(PICTURE, 2, 2, 0), 0);
        Due.is("FAR 5, no fog", shown(PICTURE, 5, 5, 0), 0);
        Due.sentence(12, "BULL: as a WALKING, but not if FAR is 1;");
        for (int fog = 0; fog < 10; fog++) {
            Due.is("FAR 1, fog " + fog, shown(BULL, 0, 1, fog), 0);
        }
        for (int far = 2; far < 6; far++) {
            Due.is("FAR " + far + ", just thin enough", shown(BULL, 0, far, 9 - far), 1);
            Due.is("FAR " + far + ", just too thick", shown(BULL, 0, far, 10 - far), 0);
        }
        Due.sentence(12, "FRAMED: as a PICTURE, or FAR is NUMBER;");
        for (int number = 0; number < 10; number++) {
            for (int far = 1; far < 6; far++) {
                int due = far == 1 || far == number ? 1 : 0;
                Due.is("NUMBER " + number + ", FAR " + far + ", no fog", shown(FRAMED, number, far, 0), due);
                Due.is("NUMBER " + number + ", FAR " + far + ", fog 9", shown(FRAMED, number, far, 9), due);
            }
        }
        Due.sentence(12, "HILL: if f is below 9.");
        for (int far = 1; far < 6; far++) {
            Due.is("FAR " + far + ", fog 0", shown(HILL, 0, far, 0), 1);
            Due.is("FAR " + far + ", fog 8", shown(HILL, 0, far, 8), 1);
            Due.is("FAR " + far + ", fog 9", shown(HILL, 0, far, 9), 0);
        }
    }

    /** LEFT, where sleep costs nothing: price 0 and what the rule says is all that is told. */
    private static void worth(int kind, int number, int far, int told, int due) {
        String e = told < 0 ? "0-" + -told : "" + told;
        FirstSeen x = Due.ruledBy("sees 1;worth " + e + ";sleep 0;");
        x.thing(kind, far, number);
        x.sleeper(0, 1, 0);
        Due.is("it has it", x.has(0), 0);
        Due.is("KIND " + kind + ", NUMBER " + number + ", FAR " + far + ", told " + told, x.left(0), due);
    }

    private static void worth() {
        Due.sentence(15, "WORTH (v being told, so FAR): THING: v;");
        worth(THING, 9, 5, 0, 0);
        worth(THING, 9, 5, 1, 1);
        worth(THING, 9, 5, 99, 99);
        Due.sentence(15, "WALKING: FAR more than a THING;");
        worth(WALKING, 9, 1, 0, 1);
        worth(WALKING, 9, 5, 0, 5);
        worth(WALKING, 9, 5, 99, 104);
        Due.sentence(15, "PICTURE: half (cut);");
        worth(PICTURE, 9, 1, 1, 0);
        worth(PICTURE, 9, 1, 2, 1);
        worth(PICTURE, 9, 1, 3, 1);
        worth(PICTURE, 9, 1, 99, 49);
        Due.sentence(15, "BULL: twice a WALKING's;");
        worth(BULL, 9, 2, 0, 4);
        worth(BULL, 9, 5, 0, 10);
        worth(BULL, 9, 5, 99, 208);
        Due.sentence(15, "FRAMED: a PICTURE's and NUMBER;");
        worth(FRAMED, 0, 1, 1, 0);
        worth(FRAMED, 9, 1, 1, 9);
        worth(FRAMED, 5, 5, 99, 54);
        Due.sentence(15, "HILL: a THING's less FAR.");
        worth(HILL, 9, 1, 99, 98);
        worth(HILL, 9, 5, 99, 94);
        worth(HILL, 9, 5, 6, 1);
    }

    private static void worthInTheEnd() {
        Due.sentence(15, "(WORTH 0 at least, in the end.)");
        worth(THING, 0, 1, -1, 0);
        worth(THING, 0, 1, -99, 0);
        worth(WALKING, 0, 3, -2, 1);
        worth(WALKING, 0, 3, -3, 0);
        worth(WALKING, 0, 3, -4, 0);
        worth(BULL, 0, 3, -2, 2);
        worth(BULL, 0, 3, -3, 0);
        worth(BULL, 0, 3, -4, 0);
        worth(HILL, 0, 3, 4, 1);
        worth(HILL, 0, 3, 3, 0);
        worth(HILL, 0, 3, 2, 0);
        worth(HILL, 0, 3, -9, 0);
        Due.sentence(15, "Quotients are cut toward 0.");
        worth(PICTURE, 0, 1, -1, 0);
        worth(PICTURE, 0, 1, -2, 0);
        worth(FRAMED, 2, 1, -1, 2);
        worth(FRAMED, 2, 1, -2, 1);
        worth(FRAMED, 2, 1, -3, 1);
        worth(FRAMED, 2, 1, -4, 0);
        worth(FRAMED, 2, 1, -6, 0);
        worth(FRAMED, 9, 1, -17, 1);
        worth(FRAMED, 9, 1, -18, 0);
    }

    /** LEFT of one that has a thing, FAR 5, of a PRICE, by what the rule says, sleep for nothing. */
    private static int withPrice(int kind, int price, String worth) {
        FirstSeen x = Due.ruledBy("sees 1;worth " + worth + ";sleep 0;");
        x.thing(kind, 5, 10 * price + 5);
        x.sleeper(0, 1, 0);
        return x.left(0);
    }

    private static void worthBounds() {
        Due.sentence(15, "worth: what comes to PRICE (-99 .. 99, else the bound).");
        int[] tens = {97, 98, 99, 100, 101, 999, 9999};
        for (int v : tens) {
            int bounded = Math.min(v, 99);
            Due.is("PRICE 0, " + v, withPrice(THING, 0, "" + v), bounded);
            Due.is("PRICE 99, " + v, withPrice(THING, 99, "" + v), 99 + bounded);
            Due.is("PRICE 99, -" + v, withPrice(THING, 99, "-" + v), 99 - bounded);
            Due.is("WALKING, PRICE 99, -" + v, withPrice(WALKING, 99, "-" + v), 104 - bounded);
            Due.is("WALKING, PRICE 97, -" + v, withPrice(WALKING, 97, "-" + v), 102 - bounded);
        }
        Due.is("the greatest int", withPrice(THING, 1, "8192*8*8192*4-1"), 100);
        Due.is("the least int", withPrice(THING, 99, "8192*8*8192*4"), 0);
        Due.is("the least int, WALKING", withPrice(WALKING, 99, "8192*8*8192*4"), 5);
        Due.is("one above the greatest int", withPrice(WALKING, 99, "8192*8*8192*4-1+1"), 5);
        Due.is("BULL, the most that can be", withPrice(BULL, 99, "99"), 406);
        Due.is("FRAMED, the most", withPrice(FRAMED, 99, "99"), 104);
        Due.is("HILL, the most", withPrice(HILL, 99, "99"), 193);
    }

    /** What waking in the last minute costs by the rule, having nothing. */
    private static int cost(String sleep) {
        FirstSeen x = Due.ruledBy("sees 1;worth 0;sleep " + sleep + ";");
        x.sleeper(0, 0, 0);
        x.sleeper(0, 230, 0);
        return -x.left(1);
    }

    private static void sleepBounds() {
        Due.sentence(15, "sleep: what waking in that MINUTE costs (far, fog, high, thing 0; 0 .. 99, else the bound).");
        Due.is("0", cost("0"), 0);
        Due.is("1", cost("1"), 1);
        Due.is("-1", cost("-1"), 0);
        Due.is("98", cost("98"), 98);
        Due.is("99", cost("99"), 99);
        Due.is("100", cost("100"), 99);
        Due.is("9999", cost("9999"), 99);
        Due.is("-9999", cost("-9999"), 0);
        Due.is("the greatest int", cost("8192*8*8192*4-1"), 99);
        Due.is("the least int", cost("8192*8*8192*4"), 0);
        Due.is("minute", cost("minute"), 23);
        Due.is("one", cost("one"), 1);
        FirstSeen x = Due.ruledBy("sees 1;worth 99;sleep far+fog+high+thing;");
        x.thing(0, 5, 0);
        x.thing(0, 2, 0);
        for (int c = 0; c < 36; c++) {
            x.town(0, c, 9);
        }
        x.town(1, 0, 3);
        x.sleeper(0, 231, 0);
        Due.is("it has the second thing, FAR 2, in fog", x.has(0), 1);
        Due.is("far, fog, high, thing cost nothing", x.left(0), 99);
        Due.sentence(15, "TEXT 0, at first THE RULE, is: sees 1 ; worth 0 ; sleep 23 - minute ;");
        FirstSeen y = new FirstSeen();
        y.sleeper(0, 0, 0);
        for (int m = 0; m < 24; m++) {
            y.set(5, 0, m);
            Due.is("MINUTE " + m, y.left(0), m - 23);
        }
    }
}
