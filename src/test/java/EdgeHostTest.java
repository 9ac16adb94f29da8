/** Sentences of "Terms", part 3, and of promises 30 to 34, on both sides of what they bound. */
public final class EdgeHostTest {
    private static final int BAD = FirstSeen.BAD;
    private static final int NOTHING = -11, OUTSIDE = -12, UNLIKE = -13, NEGATIVE = -14;
    private static final int MIN = Integer.MIN_VALUE, MAX = Integer.MAX_VALUE;

    public static void main(String[] args) {
        refusals();
        missingAtFirst();
        sheet();
        sheetIsAllNothing();
        sheetRefusals();
        cell();
        cellBits();
        cellRefusals();
        copy();
        copyOverItself();
        copyOutside();
        copyRefusals();
        heights();
        heightsOutside();
        heightsRefusals();
        taken();
        takenRefusals();
        Due.end("EdgeHostTest");
    }

    /** A sheet of each sort, bytes 1 2 3, shorts 4 5 6, ints 7 8 9, and a missing one. */
    private static void sheets(FirstSeen x) {
        for (int sheet = 0; sheet < 3; sheet++) {
            x.sheet(sheet, sheet, 3);
            for (int i = 0; i < 3; i++) {
                x.cell(sheet, i, 3 * sheet + i + 1);
            }
        }
        x.town(0, 3, 5);
        x.thing(3, 14, 567);
        x.image();
        x.town(0, 3, 6);
    }

    private static void holds(FirstSeen x, int sheet, String items) {
        String got = Twin.items(x, sheet);
        Due.holds("items are " + got + ", due are " + items, got.endsWith(": " + items));
    }

    private static void refusals() {
        Due.sentence(30, "the host's: -11 nothing where something is asked, -12 a place outside, -13 a thing of another sort or KIND, -14 a size below 0.");
        FirstSeen x = new FirstSeen();
        sheets(x);
        Due.is("no row there", x.cell(3, 0, 0), -11);
        Due.is("no THING there", x.taken(1, 0), -11);
        Due.is("no item there", x.cell(0, 3, 0), -12);
        Due.is("unlike sorts", x.copy(0, 0, 1, 0, 1), -13);
        Due.is("another sort", x.heights(0, 1, 0, 1), -13);
        Due.is("another KIND", x.taken(0, 5), -13);
        Due.is("a size", x.sheet(0, 0, -1), -14);
    }

    // ---- sheet

    private static void missingAtFirst() {
        Due.sentence(30, "SHEETS 0 .. 3 are rows of numbers, or missing (as all are at first): of sort 0 bytes, 1 shorts, 2 ints.");
        FirstSeen x = new FirstSeen();
        for (int s = 0; s < 4; s++) {
            Due.is("cell " + s, x.cell(s, 0, 0), NOTHING);
            Due.is("copy from " + s, x.copy(s, 0, s, 0, 0), NOTHING);
            Due.is("judge " + s, x.judge(s), NOTHING);
            for (int sort = 0; sort < 3; sort++) {
                Due.is("heights " + s + " taken for " + sort, x.heights(s, sort, 0, 0), NOTHING);
                Due.is("it becomes " + sort, x.sheet(s, sort, 1), 1);
                for (int other = 0; other < 3; other++) {
                    Due.is("of " + sort + ", taken for " + other, x.heights(s, other, 0, 0), sort == other ? 0 : UNLIKE);
                }
                Due.is("missing again", x.sheet(s, -1, 1), 1);
                Due.is("so it is", x.cell(s, 0, 0), NOTHING);
                Due.is("missing once more", x.sheet(s, -1, 0), 1);
            }
        }
    }

    private static void sheet() {
        Due.sentence(30, "A SHEET becomes a row of n of a sort, all 0, or missing (sort -1: n does not matter): 1.");
        for (int s = 0; s < 4; s++) {
            FirstSeen x = new FirstSeen();
            for (int sort = 0; sort < 3; sort++) {
                for (int n = 0; n <= 40; n++) {
                    Due.is("a row of " + n, x.sheet(s, sort, n), 1);
                    Due.is("its last item", x.cell(s, n - 1, 1), n == 0 ? OUTSIDE : 1);
                    Due.is("none behind it", x.cell(s, n, 1), OUTSIDE);
                }
            }
            for (int n : new int[] {-1, 0, 1, 40, 41, MIN, MAX}) {
                x.sheet(s, 0, 1);
                Due.is("missing, n " + n, x.sheet(s, -1, n), 1);
                Due.is("it is missing, n " + n, x.cell(s, 0, 1), NOTHING);
            }
        }
    }

    private static void sheetIsAllNothing() {
        Due.sentence(30, "A SHEET becomes a row of n of a sort, all 0");
        FirstSeen x = new FirstSeen();
        for (int sort = 0; sort < 3; sort++) {
            x.sheet(1, sort, 6);
            for (int i = 0; i < 6; i++) {
                x.cell(1, i, 9);
            }
            x.sheet(1, sort, 3);
            holds(x, 1, "000");
            x.sheet(1, sort, 6);
            holds(x, 1, "000000");
            x.cell(1, 5, 8);
            x.sheet(1, (sort + 1) % 3, 6);
            holds(x, 1, "000000");
            x.cell(1, 5, 8);
            x.sheet(1, -1, 6);
            x.sheet(1, sort, 6);
            holds(x, 1, "000000");
        }
        // To read a sheet spoils another one, so each is read in an object of its own.
        String[] due = {"123", "00", "789"};
        for (int s = 0; s < 3; s++) {
            FirstSeen y = new FirstSeen();
            sheets(y);
            y.sheet(1, 2, 2);
            holds(y, s, due[s]);
            FirstSeen z = new FirstSeen();
            sheets(z);
            z.sheet(1, -1, 2);
            holds(z, s, s == 1 ? "" : due[s]);
        }
    }

    private static void sheetRefusals() {
        Due.sentence(30, "BAD: no such SHEET, sort; n above 40; -14.");
        FirstSeen x = new FirstSeen();
        for (int wrong : new int[] {-1, 4, MIN, MAX}) {
            for (int sort = -2; sort < 4; sort++) {
                Due.is("SHEET " + wrong + ", sort " + sort, x.sheet(wrong, sort, 1), BAD);
                Due.is("SHEET " + wrong + ", n below 0", x.sheet(wrong, sort, -1), BAD);
            }
        }
        for (int wrong : new int[] {-2, 3, MIN, MAX}) {
            Due.is("sort " + wrong, x.sheet(0, wrong, 1), BAD);
            Due.is("sort " + wrong + " ahead of n below 0", x.sheet(0, wrong, -1), BAD);
        }
        for (int sort = 0; sort < 3; sort++) {
            Due.is("n 40", x.sheet(0, sort, 40), 1);
            Due.is("n 41", x.sheet(0, sort, 41), BAD);
            Due.is("the greatest n", x.sheet(0, sort, MAX), BAD);
            Due.is("n -1", x.sheet(0, sort, -1), NEGATIVE);
            Due.is("the least n", x.sheet(0, sort, MIN), NEGATIVE);
            Due.is("it stays by refusals", x.cell(0, 39, 1), 1);
        }
        Twin.unchanged("no such SHEET", EdgeHostTest::sheets, t -> t.sheet(4, 0, 1), BAD);
        Twin.unchanged("no such sort", EdgeHostTest::sheets, t -> t.sheet(1, 3, 1), BAD);
        Twin.unchanged("n above 40", EdgeHostTest::sheets, t -> t.sheet(1, 1, 41), BAD);
        Twin.unchanged("n below 0", EdgeHostTest::sheets, t -> t.sheet(1, 1, -1), NEGATIVE);
        Twin.unchanged("n below 0 of a missing one", EdgeHostTest::sheets, t -> t.sheet(3, 1, -1), NEGATIVE);
        Twin.unchanged("missing as it was", EdgeHostTest::sheets, t -> t.sheet(3, -1, 7), 1);
    }

    // ---- cell

    private static void cell() {
        Due.sentence(31, "Item i of a SHEET becomes v (of bytes, shorts its lowest 8, 16 bits): 1.");
        for (int sheet = 0; sheet < 3; sheet++) {
            for (int i = 0; i < 3; i++) {
                FirstSeen x = new FirstSeen();
                sheets(x);
                Due.is("item " + i + " of " + sheet, x.cell(sheet, i, 0), 1);
                StringBuilder due = new StringBuilder("123456789".substring(3 * sheet, 3 * sheet + 3));
                due.setCharAt(i, '0');
                holds(x, sheet, due.toString());
            }
        }
    }

    /** What an item holds after v was put there, if it is -1 .. 5, which a sleeper may have. */
    private static boolean became(int sort, int v, int due) {
        FirstSeen x = new FirstSeen();
        for (int t = 0; t < 6; t++) {
            x.thing(0, t == due ? 1 : 35, 0);
        }
        x.sleeper(0, 1, 0);
        Due.is("it HAS what is due", x.has(0), due);
        x.sheet(0, sort, 1);
        Due.is("put " + v, x.cell(0, 0, v), 1);
        return x.judge(0) == FirstSeen.NONE;
    }

    private static void cellBits() {
        Due.sentence(31, "(of bytes, shorts its lowest 8, 16 bits)");
        for (int due = -1; due < 6; due++) {
            for (int above : new int[] {0, 1 << 7, 1 << 8, 1 << 9, 1 << 15, 1 << 16, 1 << 17, 1 << 30, MIN}) {
                // The bits above count in none, some, all of the sorts, up to what -1 is.
                int v = due ^ above;
                int lowest8 = above & 255;
                int lowest16 = above & 65535;
                String put = "bits " + Integer.toHexString(above) + " unlike in " + due;
                Due.is(put + ", a byte", became(0, v, due) ? 1 : 0, lowest8 == 0 ? 1 : 0);
                Due.is(put + ", a short", became(1, v, due) ? 1 : 0, lowest16 == 0 ? 1 : 0);
                Due.is(put + ", an int", became(2, v, due) ? 1 : 0, above == 0 ? 1 : 0);
            }
        }
        Due.is("byte 255 is -1", became(0, 255, -1) ? 1 : 0, 1);
        Due.is("short 255 is not", became(1, 255, -1) ? 1 : 0, 0);
        Due.is("short 65535 is -1", became(1, 65535, -1) ? 1 : 0, 1);
        Due.is("int 65535 is not", became(2, 65535, -1) ? 1 : 0, 0);
        Due.is("byte 256 is 0", became(0, 256, 0) ? 1 : 0, 1);
        Due.is("byte -256 is 0", became(0, -256, 0) ? 1 : 0, 1);
        Due.is("short 65536 is 0", became(1, 65536, 0) ? 1 : 0, 1);
        Due.is("short -65536 is 0", became(1, -65536, 0) ? 1 : 0, 1);
        Due.is("the least int is 0 of bytes", became(0, MIN, 0) ? 1 : 0, 1);
        Due.is("the greatest int is -1 of shorts", became(1, MAX, -1) ? 1 : 0, 1);
    }

    private static void cellRefusals() {
        Due.sentence(31, "BAD: no such SHEET; -11; -12.");
        FirstSeen x = new FirstSeen();
        sheets(x);
        for (int wrong : new int[] {-1, 4, MIN, MAX}) {
            Due.is("SHEET " + wrong, x.cell(wrong, 0, 0), BAD);
            Due.is("SHEET " + wrong + ", no such item", x.cell(wrong, -1, 0), BAD);
        }
        for (int wrong : new int[] {-1, 3, 40, MIN, MAX}) {
            Due.is("missing, item " + wrong, x.cell(3, wrong, 0), NOTHING);
            for (int sheet = 0; sheet < 3; sheet++) {
                Due.is("item " + wrong, x.cell(sheet, wrong, 0), OUTSIDE);
            }
        }
        Due.is("missing, item 0", x.cell(3, 0, 0), NOTHING);
        x.sheet(3, 0, 0);
        Due.is("with no cells, item 0", x.cell(3, 0, 0), OUTSIDE);
        Twin.unchanged("no such SHEET", EdgeHostTest::sheets, t -> t.cell(4, 0, 7), BAD);
        Twin.unchanged("missing", EdgeHostTest::sheets, t -> t.cell(3, 0, 7), NOTHING);
        Twin.unchanged("item below", EdgeHostTest::sheets, t -> t.cell(1, -1, 7), OUTSIDE);
        Twin.unchanged("item above", EdgeHostTest::sheets, t -> t.cell(1, 3, 7), OUTSIDE);
    }

    // ---- copy

    /** Sheet 0 holds 123456, sheet 1 holds 789, both of a sort, sheet 2 of another one. */
    private static FirstSeen rows(int sort) {
        FirstSeen x = new FirstSeen();
        Due.sheet(x, 0, sort, 1, 2, 3, 4, 5, 6);
        Due.sheet(x, 1, sort, 7, 8, 9);
        Due.sheet(x, 2, (sort + 1) % 3, 4, 4, 4);
        return x;
    }

    private static void copied(int i, int j, int n, String due) {
        for (int sort = 0; sort < 3; sort++) {
            FirstSeen x = rows(sort);
            Due.is("from " + i + " to " + j + ", " + n, x.copy(0, i, 1, j, n), n);
            holds(x, 1, due);
            FirstSeen y = rows(sort);
            y.copy(0, i, 1, j, n);
            holds(y, 0, "123456");
        }
    }

    private static void copy() {
        Due.sentence(32, "n numbers of a SHEET, from item i on, come to another one's item j on (as they were): n.");
        copied(0, 0, 3, "123");
        copied(3, 0, 3, "456");
        copied(5, 2, 1, "786");
        copied(0, 2, 1, "781");
        copied(4, 1, 2, "756");
        copied(0, 0, 0, "789");
        copied(6, 3, 0, "789");
        copied(6, 0, 0, "789");
        copied(0, 3, 0, "789");
        FirstSeen x = new FirstSeen();
        x.sheet(0, 0, 40);
        x.sheet(1, 0, 40);
        x.cell(0, 39, 5);
        Due.is("all of a full one", x.copy(0, 0, 1, 0, 40), 40);
        holds(x, 1, "0".repeat(39) + "5");
        Due.is("one more than all", x.copy(0, 0, 1, 0, 41), OUTSIDE);
        x.sheet(2, 1, 0);
        x.sheet(3, 1, 0);
        Due.is("none of one with no cells", x.copy(2, 0, 3, 0, 0), 0);
        Due.is("one of one with no cells", x.copy(2, 0, 3, 0, 1), OUTSIDE);
        // Numbers that are no heights come as they were, too: -1 of each sort.
        for (int sort = 0; sort < 3; sort++) {
            FirstSeen y = new FirstSeen();
            y.sleeper(0, 0, 0);
            Due.sheet(y, 0, sort, -1);
            y.sheet(1, sort, 1);
            Due.is("not as told yet", y.judge(1), 0);
            Due.is("below 0", y.copy(0, 0, 1, 0, 1), 1);
            Due.is("as told", y.judge(1), FirstSeen.NONE);
        }
    }

    private static void copyOverItself() {
        Due.sentence(32, "come to another one's item j on (as they were): n.");
        int[][] calls = {{0, 1, 5}, {1, 0, 5}, {0, 3, 3}, {2, 3, 2}, {0, 0, 6}, {5, 0, 1}};
        String[] due = {"112345", "234566", "123123", "123346", "123456", "623456"};
        for (int k = 0; k < calls.length; k++) {
            for (int sort = 0; sort < 3; sort++) {
                FirstSeen x = rows(sort);
                int n = calls[k][2];
                Due.is("over itself", x.copy(0, calls[k][0], 0, calls[k][1], n), n);
                holds(x, 0, due[k]);
            }
        }
    }

    private static void copyOutside() {
        Due.sentence(32, "-12 (also with n below 0).");
        FirstSeen x = rows(1);
        int[][] outside = {{-1, 0, 0}, {-1, 0, 1}, {0, -1, 0}, {0, -1, 1}, {0, 0, -1}, {7, 0, 0}, {6, 0, 1},
            {0, 4, 0}, {0, 3, 1}, {0, 0, 4}, {4, 0, 3}, {0, 1, 3}, {3, 3, -1}, {MIN, 0, 1}, {MAX, 0, 1},
            {0, MIN, 1}, {0, MAX, 1}, {0, 0, MIN}, {0, 0, MAX}, {1, 0, MAX}, {0, 1, MAX}, {MAX, MAX, MAX},
            {MIN, MIN, MIN}, {MAX, 0, MIN}, {MAX, 0, 0}, {0, MAX, 0}, {MIN, MAX, -1}};
        for (int[] o : outside) {
            Due.is("from " + o[0] + " to " + o[1] + ", " + o[2], x.copy(0, o[0], 1, o[1], o[2]), OUTSIDE);
            Due.is("the other way round", x.copy(1, o[1], 0, o[0], o[2]), OUTSIDE);
        }
        holds(x, 1, "789");
        FirstSeen y = rows(1);
        for (int[] o : outside) {
            y.copy(1, o[1], 0, o[0], o[2]);
        }
        holds(y, 0, "123456");
    }

    private static void copyRefusals() {
        Due.sentence(32, "BAD: no such SHEET; -11; -13: they are of unlike sorts; -12");
        FirstSeen x = new FirstSeen();
        sheets(x);
        for (int wrong : new int[] {-1, 4, MIN, MAX}) {
            Due.is("SHEET " + wrong, x.copy(wrong, 0, 0, 0, 1), BAD);
            Due.is("other " + wrong, x.copy(0, 0, wrong, 0, 1), BAD);
            Due.is("SHEET " + wrong + " ahead of a missing one", x.copy(wrong, 0, 3, 0, 1), BAD);
            Due.is("other " + wrong + " ahead of a missing one", x.copy(3, 0, wrong, 0, -1), BAD);
        }
        for (int sheet = 0; sheet < 4; sheet++) {
            Due.is("missing", x.copy(3, 0, sheet, 0, 1), NOTHING);
            Due.is("other missing", x.copy(sheet, 0, 3, 0, 1), NOTHING);
            Due.is("missing ahead of outside", x.copy(sheet, -1, 3, -1, -1), NOTHING);
        }
        for (int sheet = 0; sheet < 3; sheet++) {
            for (int other = 0; other < 3; other++) {
                Due.is(sheet + " and " + other, x.copy(sheet, 0, other, 0, 1), sheet == other ? 1 : UNLIKE);
                Due.is(sheet + " and " + other + ", none", x.copy(sheet, 3, other, 3, 0), sheet == other ? 0 : UNLIKE);
                Due.is(sheet + " and " + other + ", outside", x.copy(sheet, 0, other, 0, -1),
                        sheet == other ? OUTSIDE : UNLIKE);
            }
        }
        Twin.unchanged("no such SHEET", EdgeHostTest::sheets, t -> t.copy(0, 0, 4, 0, 1), BAD);
        Twin.unchanged("missing", EdgeHostTest::sheets, t -> t.copy(0, 0, 3, 0, 1), NOTHING);
        Twin.unchanged("unlike", EdgeHostTest::sheets, t -> t.copy(0, 0, 1, 0, 1), UNLIKE);
        Twin.unchanged("outside", EdgeHostTest::sheets, t -> t.copy(1, 0, 1, 1, 3), OUTSIDE);
        Twin.unchanged("n below 0", EdgeHostTest::sheets, t -> t.copy(1, 0, 1, 1, -1), OUTSIDE);
        Twin.unchanged("none", EdgeHostTest::sheets, t -> t.copy(1, 0, 1, 1, 0), 0);
    }

    // ---- heights

    private static void heights() {
        Due.sentence(33, "How HIGH CELLS are, by a SHEET that is taken for one of a sort: from one on, two by two (a CELL, how HIGH), n of them (0 .. 20): how many became so (others are left out).");
        int[][] pairs = {{0, 0}, {0, 9}, {35, 0}, {35, 9}, {-1, 5}, {36, 5}, {5, -1}, {5, 10}, {MIN, 5}, {MAX, 5},
            {5, MIN}, {5, MAX}, {127, 5}, {-128, 5}, {5, 127}, {5, -128}};
        for (int sort = 0; sort < 3; sort++) {
            for (int[] pair : pairs) {
                FirstSeen x = new FirstSeen();
                for (int c = 0; c < 36; c++) {
                    x.town(0, c, 4);
                }
                Due.sheet(x, 0, sort, pair[0], pair[1]);
                int cell = sort == 0 ? (byte) pair[0] : sort == 1 ? (short) pair[0] : pair[0];
                int high = sort == 0 ? (byte) pair[1] : sort == 1 ? (short) pair[1] : pair[1];
                boolean so = cell >= 0 && cell < 36 && high >= 0 && high < 10;
                Due.is("a CELL " + cell + ", " + high + " HIGH", x.heights(0, sort, 0, 1), so ? 1 : 0);
                for (int c = 0; c < 36; c++) {
                    Due.is("how HIGH " + c + " is", x.high(c), so && c == cell ? high : 4);
                }
            }
        }
        FirstSeen x = new FirstSeen();
        Due.sheet(x, 1, 1, 5, 3, 5, 7, 6, 2);
        Due.is("none of them", x.heights(1, 1, 0, 0), 0);
        Due.is("nothing was built", x.count(2), 0);
        Due.is("one CELL twice", x.heights(1, 1, 0, 2), 2);
        Due.is("the last counts", x.high(5), 7);
        Due.is("from the second number on", x.heights(1, 1, 1, 2), 2);
        Due.is("3, 5", x.high(3), 5);
        Due.is("7, 6", x.high(7), 6);
        Due.is("from the last pair on", x.heights(1, 1, 4, 1), 1);
        Due.is("6, 2", x.high(6), 2);
        Due.is("as it is already", x.heights(1, 1, 4, 1), 1);
        Due.is("none behind the last", x.heights(1, 1, 6, 0), 0);
        FirstSeen y = new FirstSeen();
        y.sheet(0, 2, 40);
        for (int i = 0; i < 20; i++) {
            y.cell(0, 2 * i, 16 + i);
            y.cell(0, 2 * i + 1, i < 10 ? 9 : 1);
        }
        Due.is("all 20", y.heights(0, 2, 0, 20), 20);
        Due.is("so many are HIGH", y.count(2), 20);
        Due.is("the first of them", y.high(16), 9);
        Due.is("the last of them", y.high(35), 1);
    }

    private static void heightsOutside() {
        Due.sentence(33, "-12: what stood ahead became so.");
        for (int n = 0; n <= 20; n++) {
            for (int size = 2 * n - 1; size <= 2 * n + 1; size++) {
                FirstSeen x = new FirstSeen();
                x.sheet(0, 0, size);
                for (int i = 0; i < size; i++) {
                    x.cell(0, i, i % 2 == 0 ? i / 2 : 1);
                }
                if (size >= 0 && size <= 40) {
                    Due.is(n + " of a row of " + size, x.heights(0, 0, 0, n), size < 2 * n ? OUTSIDE : n);
                    Due.is("became so by " + n + " of a row of " + size, x.count(2), Math.min(n, size / 2));
                }
            }
        }
        FirstSeen x = new FirstSeen();
        Due.sheet(x, 0, 1, 5, 3, 36, 3, 6, 4, 7);
        Due.is("the last has no height", x.heights(0, 1, 0, 4), OUTSIDE);
        Due.is("the first became so", x.high(5), 3);
        Due.is("the third became so", x.high(6), 4);
        Due.is("no other one", x.count(2), 2);
        Twin.unchanged("nothing stood ahead", EdgeHostTest::sheets, t -> t.heights(1, 1, 2, 1), OUTSIDE);
        for (int from : new int[] {-1, -2, 3, 4, 40, MIN, MIN + 1, MAX, MAX - 1, MAX - 39}) {
            Due.is("from " + from + ", one", built(from, 1), OUTSIDE);
            Due.is("from " + from + ", 20", built(from, 20), OUTSIDE);
            Due.is("from " + from + ", none", built(from, 0), 0);
        }
        FirstSeen y = new FirstSeen();
        y.sheet(3, 2, 0);
        Due.is("with no cells, none", y.heights(3, 2, 0, 0), 0);
        Due.is("with no cells, one", y.heights(3, 2, 0, 1), OUTSIDE);
    }

    /** A sheet whose items are all good for a CELL and for how HIGH it is; nothing may be built. */
    private static int built(int from, int n) {
        FirstSeen x = new FirstSeen();
        Due.sheet(x, 0, 2, 1, 2, 3, 4);
        int got = x.heights(0, 2, from, n);
        Due.is("nothing was built", x.count(2), 0);
        return got;
    }

    private static void heightsRefusals() {
        Due.sentence(33, "BAD: no such SHEET, sort, n; -13; -11; -12: what stood ahead became so.");
        FirstSeen x = new FirstSeen();
        sheets(x);
        for (int wrong : new int[] {-1, 4, MIN, MAX}) {
            Due.is("SHEET " + wrong, x.heights(wrong, 0, 0, 1), BAD);
            Due.is("SHEET " + wrong + ", outside", x.heights(wrong, 0, -1, 1), BAD);
        }
        for (int sheet = 0; sheet < 4; sheet++) {
            for (int wrong : new int[] {-1, 3, MIN, MAX}) {
                Due.is("sort " + wrong + " of " + sheet, x.heights(sheet, wrong, 0, 1), BAD);
            }
            for (int wrong : new int[] {-1, 21, MIN, MAX}) {
                Due.is("n " + wrong + " of " + sheet, x.heights(sheet, sheet % 3, 0, wrong), BAD);
                Due.is("n " + wrong + " ahead of -13", x.heights(sheet, (sheet + 1) % 3, 0, wrong), BAD);
            }
            for (int sort = 0; sort < 3; sort++) {
                int due = sheet == 3 ? NOTHING : sheet == sort ? 1 : UNLIKE;
                Due.is("sheet " + sheet + " for " + sort, x.heights(sheet, sort, 0, 1), due);
                Due.is("sheet " + sheet + " for " + sort + ", none", x.heights(sheet, sort, 0, 0), due == 1 ? 0 : due);
                Due.is("sheet " + sheet + " for " + sort + ", outside", x.heights(sheet, sort, 3, 20),
                        due == 1 ? OUTSIDE : due);
            }
        }
        x.sheet(0, 0, 40);
        Due.is("n 20", x.heights(0, 0, 0, 20), 20);
        Twin.unchanged("no such SHEET", EdgeHostTest::sheets, t -> t.heights(4, 0, 0, 1), BAD);
        Twin.unchanged("no such sort", EdgeHostTest::sheets, t -> t.heights(0, 3, 0, 1), BAD);
        Twin.unchanged("n above", EdgeHostTest::sheets, t -> t.heights(0, 0, 0, 21), BAD);
        Twin.unchanged("n below", EdgeHostTest::sheets, t -> t.heights(0, 0, 0, -1), BAD);
        Twin.unchanged("unlike", EdgeHostTest::sheets, t -> t.heights(0, 1, 0, 1), UNLIKE);
        Twin.unchanged("missing", EdgeHostTest::sheets, t -> t.heights(3, 1, 0, 1), NOTHING);
        Twin.unchanged("from below", EdgeHostTest::sheets, t -> t.heights(0, 0, -1, 1), OUTSIDE);
        Twin.unchanged("none of them", EdgeHostTest::sheets, t -> t.heights(0, 0, 0, 0), 0);
    }

    // ---- taken

    private static void taken() {
        Due.sentence(34, "A THING taken for one of KIND k (0 .. 5), or one under that one (also by others between): its NUMBER.");
        int[] above = {-1, 0, 0, 1, 2, 0};
        for (int kind = 0; kind < 6; kind++) {
            for (int number = 0; number < 10; number++) {
                FirstSeen x = new FirstSeen();
                x.thing(kind, 0, 990 + number);
                for (int k = 0; k < 6; k++) {
                    boolean under = false;
                    for (int of = kind; of >= 0; of = above[of]) {
                        under |= of == k;
                    }
                    Due.is("KIND " + kind + " for " + k, x.taken(0, k), under ? number : UNLIKE);
                }
            }
        }
    }

    /** All six THINGS, the last of them a BULL. */
    private static void sixThings(FirstSeen x) {
        for (int t = 0; t < 6; t++) {
            x.thing((t + 4) % 6, t, t);
        }
    }

    private static void takenRefusals() {
        Due.sentence(34, "BAD: k; -11: no such THING; -13.");
        FirstSeen x = new FirstSeen();
        Due.is("no THINGS", x.taken(0, 0), NOTHING);
        Due.is("no THINGS, k above", x.taken(0, 6), BAD);
        sixThings(x);
        for (int wrong : new int[] {-1, 6, MIN, MAX}) {
            Due.is("k " + wrong, x.taken(0, wrong), BAD);
            Due.is("k " + wrong + " ahead of no such THING", x.taken(6, wrong), BAD);
            for (int k = 0; k < 6; k++) {
                Due.is("THING " + wrong + " for " + k, x.taken(wrong, k), NOTHING);
            }
        }
        Due.is("the last for a BULL", x.taken(5, 3), 5);
        Due.is("the last for a FRAMED", x.taken(5, 4), UNLIKE);
        Twin.unchanged("asking", EdgeHostTest::sheets, t -> t.taken(0, 1), 7);
        Twin.unchanged("unlike", EdgeHostTest::sheets, t -> t.taken(0, 2), UNLIKE);
        Twin.unchanged("no such THING", EdgeHostTest::sheets, t -> t.taken(1, 0), NOTHING);
        Twin.unchanged("k above", EdgeHostTest::sheets, t -> t.taken(0, 6), BAD);
    }
}
