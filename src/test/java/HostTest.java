/** Promises 30 to 34: sheets, and what is taken for something. */
public final class HostTest {
    private static final int BAD = FirstSeen.BAD;
    private static final int NOTHING = -11, OUTSIDE = -12, UNLIKE = -13, NEGATIVE = -14;
    private static final int MIN = Integer.MIN_VALUE, MAX = Integer.MAX_VALUE;

    public static void main(String[] args) {
        sheet();
        cell();
        copy();
        heights();
        taken();
        Due.end("HostTest");
    }

    private static void sheet() {
        FirstSeen x = new FirstSeen();
        for (int s = 0; s < 4; s++) {
            Due.is("30: sheet " + s, x.sheet(s, s % 3, 40), 1);
            Due.is("30: last item", x.cell(s, 39, 1), 1);
            Due.is("30: no more", x.cell(s, 40, 1), OUTSIDE);
        }
        Due.is("30: no such sheet", x.sheet(4, 0, 0), BAD);
        Due.is("30: below", x.sheet(-1, 0, 0), BAD);
        Due.is("30: no such sheet, missing", x.sheet(4, -1, 0), BAD);
        Due.is("30: no such sort", x.sheet(0, 3, 0), BAD);
        Due.is("30: sort below", x.sheet(0, -2, 0), BAD);
        Due.is("30: too long", x.sheet(0, 0, 41), BAD);
        Due.is("30: size below 0", x.sheet(0, 0, -1), NEGATIVE);
        Due.is("30: sort ahead of the size", x.sheet(0, 3, -1), BAD);
        Due.is("30: sheet ahead of the size", x.sheet(4, 0, -1), BAD);
        Due.is("30: a refusal changes nothing", x.cell(0, 39, 1), 1);
        Due.is("30: missing, n above", x.sheet(0, -1, 41), 1);
        Due.is("30: it is missing", x.cell(0, 0, 0), NOTHING);
        Due.is("30: missing, n below", x.sheet(1, -1, -1), 1);
        Due.is("30: it is missing, too", x.cell(1, 0, 0), NOTHING);
        Due.is("30: of none", x.sheet(0, 2, 0), 1);
        Due.is("30: has no item", x.cell(0, 0, 0), OUTSIDE);
        // All 0: a sheet that was written on and is made anew builds nothing.
        Due.sheet(x, 2, 2, 3, 7, 4, 8);
        x.sheet(2, 2, 4);
        x.town(0, 0, 5);
        Due.is("30: all 0", x.heights(2, 2, 0, 2), 2);
        Due.is("30: cell 0 is 0 high", x.high(0), 0);
        Due.is("30: cell 3 is not built", x.high(3), 0);
    }

    private static void cell() {
        FirstSeen x = new FirstSeen();
        Due.is("31: no such sheet", x.cell(4, 0, 0), BAD);
        Due.is("31: below", x.cell(-1, 0, 0), BAD);
        Due.is("31: BAD ahead of the item", x.cell(4, -1, 0), BAD);
        Due.is("31: missing", x.cell(0, 0, 0), NOTHING);
        Due.is("31: missing ahead of the item", x.cell(0, -1, 0), NOTHING);
        x.sheet(0, 0, 2);
        Due.is("31: item below", x.cell(0, -1, 0), OUTSIDE);
        Due.is("31: item above", x.cell(0, 2, 0), OUTSIDE);
        Due.is("31: item far above", x.cell(0, MAX, 0), OUTSIDE);
        int[] wide = {256 + 7, 65536 + 7, MIN + 7};
        int[][] high = {{7, 7, 7}, {-1, 7, 7}, {-1, -1, -1}};
        for (int sort = 0; sort < 3; sort++) {
            x.sheet(0, sort, 2);
            for (int k = 0; k < 3; k++) {
                x.town(0, 1, 0);
                x.cell(0, 0, 1);
                Due.is("31: put", x.cell(0, 1, wide[k]), 1);
                Due.is("31: lowest bits, sort " + sort + ", " + wide[k], x.heights(0, sort, 0, 1),
                        high[sort][k] < 0 ? 0 : 1);
                Due.is("31: as low", x.high(1), Math.max(0, high[sort][k]));
            }
        }
        // 255 is -1 as a byte: nobody has anything, as the sheet then tells.
        x.sleeper(0, 0, 0);
        Due.sheet(x, 1, 0, 255);
        Due.is("31: bytes are signed", x.judge(1), -1);
        Due.sheet(x, 1, 1, 255);
        Due.is("31: no short", x.judge(1), 0);
        Due.sheet(x, 1, 1, 65535);
        Due.is("31: shorts are signed", x.judge(1), -1);
        Due.sheet(x, 1, 2, 65535);
        Due.is("31: no int", x.judge(1), 0);
    }

    /** What items 0 .. 5 hold (0 .. 9 each), read back as the heights of cell 0. */
    private static String items(FirstSeen x, int sheet, int n) {
        StringBuilder all = new StringBuilder();
        x.sheet(3, 2, 2);
        for (int i = 0; i < n; i++) {
            x.copy(sheet, i, 3, 1, 1);
            x.heights(3, 2, 0, 1);
            all.append(x.high(0));
        }
        return all.toString();
    }

    private static void copy() {
        FirstSeen x = new FirstSeen();
        Due.sheet(x, 0, 2, 1, 2, 3, 4, 5, 6);
        Due.sheet(x, 1, 2, 9, 9, 9);
        Due.is("32: to another", x.copy(0, 1, 1, 0, 2), 2);
        Due.holds("32: as they were", items(x, 1, 3).equals("239"));
        Due.is("32: onward, over itself", x.copy(0, 0, 0, 1, 5), 5);
        Due.holds("32: as they were, onward", items(x, 0, 6).equals("112345"));
        Due.is("32: back over itself", x.copy(0, 2, 0, 0, 4), 4);
        Due.holds("32: as they were, back", items(x, 0, 6).equals("234545"));
        Due.is("32: none", x.copy(0, 6, 1, 3, 0), 0);
        Due.is("32: no such sheet", x.copy(4, 0, 0, 0, 0), BAD);
        Due.is("32: no such other", x.copy(0, 0, -1, 0, 0), BAD);
        Due.is("32: BAD ahead of missing", x.copy(2, 0, 4, 0, -1), BAD);
        Due.is("32: missing", x.copy(2, 0, 0, 0, 0), NOTHING);
        Due.is("32: other missing", x.copy(0, 0, 2, 0, 0), NOTHING);
        Due.is("32: missing ahead of outside", x.copy(0, -1, 2, 0, -1), NOTHING);
        x.sheet(2, 1, 3);
        Due.is("32: unlike sorts", x.copy(0, 0, 2, 0, 1), UNLIKE);
        Due.is("32: unlike, though none", x.copy(0, 0, 2, 0, 0), UNLIKE);
        Due.is("32: unlike ahead of outside", x.copy(0, 0, 2, 0, -1), UNLIKE);
        int[][] outside = {{-1, 0, 1}, {0, -1, 1}, {0, 0, -1}, {6, 0, 1}, {0, 3, 1}, {0, 0, 4}, {7, 0, 0},
            {0, 4, 0}, {5, 0, 2}, {0, 2, 2}, {MAX, 0, 1}, {1, 0, MAX}, {MAX, MAX, MAX}, {MIN, 0, 0}, {0, 0, MIN}};
        for (int[] o : outside) {
            Due.is("32: outside " + o[0] + " " + o[1] + " " + o[2], x.copy(0, o[0], 1, o[1], o[2]), OUTSIDE);
        }
        Due.holds("32: refusals change nothing", items(x, 1, 3).equals("239"));
    }

    private static void heights() {
        FirstSeen x = new FirstSeen();
        Due.sheet(x, 0, 1, 5, 5, 36, 1, 7, 10, 8, 9, -1, 3, 9, -1, 9, 0, 35, 1);
        Due.is("33: those that are such", x.heights(0, 1, 0, 8), 4);
        Due.is("33: built", x.high(5), 5);
        Due.is("33: left out", x.high(7), 0);
        Due.is("33: built, too", x.high(8), 9);
        Due.is("33: the last", x.high(35), 1);
        Due.is("33: how many", x.count(2), 3);
        Due.is("33: none", x.heights(0, 1, 0, 0), 0);
        Due.is("33: one too many", x.heights(0, 1, 12, 3), OUTSIDE);
        x.town(0, 35, 0);
        Due.is("33: outside behind a good one", x.heights(0, 1, 14, 2), OUTSIDE);
        Due.is("33: what stood ahead became so", x.high(35), 1);
        Due.is("33: half a pair", x.heights(0, 1, 15, 1), OUTSIDE);
        Due.is("33: from below", x.heights(0, 1, -1, 1), OUTSIDE);
        Due.is("33: from far below", x.heights(0, 1, MIN, 20), OUTSIDE);
        Due.is("33: from far above", x.heights(0, 1, MAX, 20), OUTSIDE);
        Due.is("33: no such sheet", x.heights(4, 1, 0, 1), BAD);
        Due.is("33: no such sort", x.heights(0, 3, 0, 1), BAD);
        Due.is("33: missing is no sort", x.heights(1, -1, 0, 1), BAD);
        Due.is("33: n below", x.heights(0, 1, 0, -1), BAD);
        Due.is("33: n above", x.heights(0, 1, 0, 21), BAD);
        Due.is("33: BAD ahead of unlike", x.heights(0, 0, 0, 21), BAD);
        Due.is("33: BAD ahead of missing", x.heights(1, 0, 0, 21), BAD);
        Due.is("33: unlike", x.heights(0, 0, 0, 1), UNLIKE);
        Due.is("33: unlike, though none", x.heights(0, 2, 0, 0), UNLIKE);
        Due.is("33: unlike ahead of outside", x.heights(0, 2, -1, 1), UNLIKE);
        Due.is("33: missing", x.heights(1, 2, 0, 1), NOTHING);
        Due.is("33: missing, though none", x.heights(1, 0, 0, 0), NOTHING);
        Due.is("33: missing ahead of outside", x.heights(1, 0, -1, 1), NOTHING);
        x.sheet(2, 0, 40);
        Due.is("33: twenty", x.heights(2, 0, 0, 20), 20);
    }

    private static void taken() {
        FirstSeen x = new FirstSeen();
        for (int kind = 0; kind < 6; kind++) {
            x.thing(kind, 0, kind + 3);
        }
        int[] under = {1, 3, 5, 11, 21, 33};
        for (int kind = 0; kind < 6; kind++) {
            for (int k = 0; k < 6; k++) {
                boolean so = (under[kind] >> k & 1) != 0;
                Due.is("34: kind " + kind + " for " + k, x.taken(kind, k), so ? kind + 3 : UNLIKE);
            }
        }
        Due.is("34: k below", x.taken(0, -1), BAD);
        Due.is("34: k above", x.taken(0, 6), BAD);
        Due.is("34: no such thing", x.taken(6, 0), NOTHING);
        Due.is("34: thing below", x.taken(-1, 0), NOTHING);
        Due.is("34: BAD ahead of no such thing", x.taken(6, 6), BAD);
        x.set(2, 3, 0);
        Due.is("34: the number now", x.taken(3, 1), 0);
    }
}
