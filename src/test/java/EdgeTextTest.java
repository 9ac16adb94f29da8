import java.util.ArrayList;
import java.util.List;

/** Sentences of "Terms" on TEXTS, and promises 9 to 11: each bound, fault and refusal. */
public final class EdgeTextTest {
    private static final int BAD = FirstSeen.BAD, FULL = FirstSeen.FULL;
    private static final int MIN = Integer.MIN_VALUE, MAX = Integer.MAX_VALUE;
    private static final String REST = ";worth 1;sleep 1;";
    private static final String LEAST = "sees 1;worth 1;sleep 1;";

    public static void main(String[] args) {
        feed();
        tapeIsFull();
        bytes();
        words();
        numbers();
        blanks();
        endsTooEarly();
        whatCanStandThere();
        behindTheEnd();
        openOnes();
        openTill();
        faultAtTheEnd();
        texts();
        textsAreFull();
        wraps();
        truth();
        names();
        force();
        Due.end("EdgeTextTest");
    }

    private static void good(String text) {
        FirstSeen x = new FirstSeen();
        Due.is("text \"" + text + "\"", Due.text(x, text), 1);
        Due.is("THE TAPE is empty then", x.count(5), 0);
        Due.is("one TEXT more", x.count(4), 2);
        Due.is("THE RULE is as it was", x.count(6), 0);
    }

    private static void fault(String text, int place) {
        FirstSeen x = new FirstSeen();
        Due.is("fault of \"" + text + "\"", Due.text(x, text), -100 - place);
        Due.is("THE TAPE is empty then, by a FAULT, too", x.count(5), 0);
        Due.is("no TEXT more", x.count(4), 1);
        Due.is("THE RULE is as it was", x.count(6), 0);
    }

    /** A text has a fault just behind what is ahead of the mark |, which is no part of it. */
    private static void marked(String text) {
        fault(text.replace("|", ""), text.indexOf('|'));
    }

    // ---- the tape

    private static void feed() {
        Due.sentence(9, "A byte (0 .. 255) comes behind THE TAPE: how many it has. BAD; FULL.");
        FirstSeen x = new FirstSeen();
        Due.is("the least", x.feed(0), 1);
        Due.is("the greatest", x.feed(255), 2);
        for (int wrong : new int[] {-1, 256, MIN, MAX, MIN + 32, 256 + 32}) {
            Due.is("byte " + wrong, x.feed(wrong), BAD);
        }
        Due.is("no refusal fed it", x.count(5), 2);
        Due.is("the next one", x.feed(32), 3);
        Twin.unchanged("a byte below", t -> Due.text(t, "x"), t -> t.feed(-1), BAD);
        Twin.unchanged("a byte above", EdgeTextTest::begun, t -> t.feed(256), BAD);
    }

    private static void begun(FirstSeen x) {
        for (char c : LEAST.toCharArray()) {
            x.feed(c);
        }
    }

    /** A tape that holds one good text of 160 bytes. */
    private static void fullTape(FirstSeen x) {
        begun(x);
        while (x.count(5) < 160) {
            x.feed(32);
        }
    }

    private static void tapeIsFull() {
        Due.sentence(9, "A TEXT is read from THE TAPE (160 bytes at most).");
        FirstSeen x = new FirstSeen();
        Due.is("none at first", x.count(5), 0);
        for (int i = 1; i <= 160; i++) {
            Due.is("feed " + i, x.feed(i % 2 == 0 ? 32 : 10), i);
        }
        Due.is("one more", x.feed(32), FULL);
        Due.is("160", x.count(5), 160);
        Due.is("its fault is at its end", x.text(), -260);
        Due.is("empty then", x.count(5), 0);
        Due.is("from the start again", x.feed(32), 1);
        Twin.unchanged("FULL", EdgeTextTest::fullTape, t -> t.feed(32), FULL);
        Twin.unchanged("BAD ahead of FULL, below", EdgeTextTest::fullTape, t -> t.feed(-1), BAD);
        Twin.unchanged("BAD ahead of FULL, above", EdgeTextTest::fullTape, t -> t.feed(256), BAD);
        good(LEAST + " ".repeat(160 - LEAST.length()));
        good(" ".repeat(160 - LEAST.length()) + LEAST);
        fault(LEAST + " ".repeat(159 - LEAST.length()) + "(", 159);
    }

    // ---- tokens

    private static void bytes() {
        Due.sentence(10, "WORDS (a .. z), NUMBERS (as many digits as stand there, 4 at most), SIGNS ( ) ; + - * < = ; blanks (32, 10) may stand between.");
        for (int b = 0; b < 256; b++) {
            String text = "sees" + (char) b + "1" + REST;
            if (b == 32 || b == 10 || b == '-' || b >= '0' && b <= '9') {
                good(text);
            } else if (b >= 'a' && b <= 'z') {
                fault(text, 0);
            } else if (b == '(') {
                fault(text, 6);
            } else {
                fault(text, 4);
            }
        }
        Due.sentence(10, "also of a byte that begins none");
        for (int b = 0; b < 256; b++) {
            String text = "sees 1" + (char) b + "2" + REST;
            String joins = "+-*<=";
            boolean digit = b >= '0' && b <= '9';
            if (joins.indexOf(b) >= 0 || digit) {
                good(text);
            } else if (b == 32 || b == 10) {
                fault(text, 7);
            } else if (b == ';') {
                fault(text, 7);
            } else {
                fault(text, 6);
            }
        }
        marked("sees 1;worth 1;sleep 1;|\u0000");
        marked("sees 1;worth 1;sleep 1;|\u00ff");
        marked("|`ees 1" + REST);
        marked("|{ees 1" + REST);
        marked("sees |/" + REST);
        marked("sees |:" + REST);
    }

    private static void words() {
        Due.sentence(10, "TOKENS, each as long as can be: WORDS (a .. z)");
        good("sees1;worth2;sleep3;");
        good("sees 1or 2" + REST);
        good("sees 1or2and3" + REST);
        good("sees not1" + REST);
        good("sees far<minute+fog-high*one+thing" + REST);
        marked("|seesfar;worth 1;sleep 1;");
        marked("|seesnot 1" + REST);
        marked("sees 1 |orfar" + REST);
        marked("sees |farminute" + REST);
        marked("sees |notfar" + REST);
        Due.sentence(10, "a WORD that is neither KEY nor NAME");
        for (String name : new String[] {"far", "minute", "fog", "high", "one", "thing"}) {
            good("sees " + name + REST);
            marked("sees |" + name + "a" + REST);
            marked("sees |z" + name + REST);
            marked("sees |" + name.substring(1) + REST);
            marked("sees |" + name.substring(0, name.length() - 1) + REST);
            marked("sees 1+|" + name.substring(0, 1) + REST);
        }
        for (String key : new String[] {"sees", "worth", "sleep", "or", "and", "not"}) {
            marked("sees 1 |" + key + "x" + REST);
            marked("sees 1 |x" + key + REST);
            marked("sees 1;worth 1;sleep 1;|" + key);
            marked("sees 1;worth 1;sleep 1;|" + key.substring(1));
        }
        marked("sees |x" + REST);
        marked("sees |" + "far".repeat(30) + REST);
        Due.sentence(10, "NAMES are far minute fog high one thing; sees, worth, sleep, or, and, not are KEYS.");
        for (String key : new String[] {"sees", "worth", "sleep", "or", "and"}) {
            marked("sees |" + key + REST);
            marked("sees 1+|" + key + REST);
        }
        marked("sees 1+|not 1" + REST);
    }

    private static void numbers() {
        Due.sentence(10, "NUMBERS (as many digits as stand there, 4 at most)");
        good("sees 0" + REST);
        good("sees 9999" + REST);
        good("sees 0000" + REST);
        Due.sentence(10, "a NUMBER that is too long");
        marked("sees |10000" + REST);
        marked("sees |00000" + REST);
        marked("sees |99999" + REST);
        marked("sees 1+|12345" + REST);
        marked("sees |" + "4".repeat(100) + REST);
        marked("sees |" + "2147483648" + REST);
        marked("sees |" + "4294967297" + REST);
        marked("sees 1234 |5" + REST);
        good("sees 1234-5678*9999" + REST);
        FirstSeen x = Due.ruledBy("sees 1;worth 0;sleep 0099;");
        x.sleeper(0, 0, 0);
        Due.is("zeros ahead count as digits alone", x.left(0), -99);
    }

    private static void blanks() {
        Due.sentence(10, "blanks (32, 10) may stand between.");
        good("sees\n1\n;\nworth\n1\n;\nsleep\n1\n;");
        good("sees  \n 1 \n\n ; worth 1 ; sleep 1 ;");
        good("sees-1;worth(1);sleep 1;");
        marked("sees|\t1" + REST);
        marked("sees|\r1" + REST);
        marked("sees 1|\u00a0" + REST);
        marked("|se es 1" + REST);
        marked("sees |f ar" + REST);
        marked("sees 1 |2" + REST);
    }

    // ---- faults

    private static void endsTooEarly() {
        Due.sentence(10, "FAULT: the place of the first byte of the first TOKEN that can't stand there (the text's size, if it ends too early)");
        String text = "sees 1 ; worth 0 ; sleep 23 - minute ;";
        int[] words = {0, 9, 19, 30};
        int[] ends = {4, 14, 24, 36};
        for (int size = 0; size < text.length(); size++) {
            int place = size;
            for (int w = 0; w < 4; w++) {
                // What is left of a word is none.
                place = size > words[w] && size < ends[w] ? words[w] : place;
            }
            fault(text.substring(0, size), place);
            fault(text.substring(0, size) + " ", place == size ? size + 1 : place);
            fault(text.substring(0, size) + "\n\n", place == size ? size + 2 : place);
        }
        good(text);
    }

    /** Of all tokens, in a place of the text, those that can stand there, told by a list. */
    private static void stands(String ahead, String tokens, String can) {
        for (String token : tokens.split(" ")) {
            FirstSeen x = new FirstSeen();
            int got = Due.text(x, ahead + " " + token + " ?");
            // The sign ? begins no token: it is the fault, where the one ahead can stand.
            boolean so = (" " + can + " ").contains(" " + token + " ");
            int due = -100 - (so ? ahead.length() + token.length() + 2 : ahead.length() + 1);
            Due.is("\"" + ahead + "\" and \"" + token + "\"", got, due);
        }
    }

    private static void whatCanStandThere() {
        Due.sentence(10, "TEXT: sees E ; worth E ; sleep E ; E: AND { or AND }. AND: NOT { and NOT }. NOT: not NOT, or SUM, perhaps < or = and a SUM. SUM: TERM { + or - TERM }. TERM: ONE { * ONE }. ONE: a NUMBER, a NAME, - ONE, ( E ).");
        String all = "( ) ; + - * < = 7 far minute fog high one thing sees worth sleep or and not x 12345 #";
        String ones = "( - 7 far minute fog high one thing";
        stands("", all, "sees");
        stands("sees", all, ones + " not");
        stands("sees 1", all, "; + - * < = or and");
        stands("sees far", all, "; + - * < = or and");
        stands("sees (1)", all, "; + - * < = or and");
        stands("sees -1", all, "; + - * < = or and");
        stands("sees not 1", all, "; + - * < = or and");
        stands("sees not", all, ones + " not");
        stands("sees not not", all, ones + " not");
        stands("sees 1 or", all, ones + " not");
        stands("sees 1 and", all, ones + " not");
        stands("sees 1 <", all, ones);
        stands("sees 1 =", all, ones);
        stands("sees 1 +", all, ones);
        stands("sees 1 -", all, ones);
        stands("sees 1 *", all, ones);
        stands("sees -", all, ones);
        stands("sees 1 < 1", all, "; + - * or and");
        stands("sees 1 = 1", all, "; + - * or and");
        stands("sees 1 < 1 + 1", all, "; + - * or and");
        stands("sees 1 = 1 and 1", all, "; + - * < = or and");
        stands("sees not 1 = 1 or 1", all, "; + - * < = or and");
        stands("sees (", all, ones + " not");
        stands("sees (1", all, ") + - * < = or and");
        stands("sees (1 < 1", all, ") + - * or and");
        stands("sees ((1)", all, ") + - * < = or and");
        stands("sees (1 < 1)", all, "; + - * < = or and");
        stands("sees 1 + (not 1)", all, "; + - * < = or and");
        stands("sees 1 ;", all, "worth");
        stands("sees 1 ; worth", all, ones + " not");
        stands("sees 1 ; worth 1", all, "; + - * < = or and");
        stands("sees 1 ; worth 1 ;", all, "sleep");
        stands("sees 1 ; worth 1 ; sleep", all, ones + " not");
        stands("sees 1 ; worth 1 ; sleep 1", all, "; + - * < = or and");
        stands("sees 1 ; worth 1 ; sleep 1 ;", all, "");
    }

    private static void behindTheEnd() {
        Due.sentence(10, "the first TOKEN that can't stand there");
        good(LEAST);
        good(LEAST + " \n");
        marked(LEAST + "|;");
        marked(LEAST + "|1");
        marked(LEAST + " \n|sees 1" + REST);
        marked("sees 1;worth 1;sleep 1 |sees 1;");
        marked("|worth 1;sees 1;sleep 1;");
        marked("sees 1;|sleep 1;worth 1;");
        // Of two faults the first one counts, whatever sort it is of.
        marked("sees |) # 12345 x");
        marked("sees |# )");
        marked("sees |12345 # )");
        marked("sees |x 12345");
        marked("sees (((((|( 12345");
        marked("sees (((((|12345 (");
    }

    /** All rows of so many openers that the grammar knows, each with what closes it behind a 1. */
    private static List<String[]> openers(int many) {
        List<String[]> rows = new ArrayList<>();
        rows.add(new String[] {"", "", "E"});
        for (int i = 0; i < many; i++) {
            List<String[]> longer = new ArrayList<>();
            for (String[] row : rows) {
                longer.add(new String[] {row[0] + "(", ")" + row[1], "E"});
                longer.add(new String[] {row[0] + "-", row[1], "ONE"});
                if (row[2].equals("E")) {
                    longer.add(new String[] {row[0] + "not ", row[1], "E"});
                }
            }
            rows = longer;
        }
        return rows;
    }

    private static void openOnes() {
        Due.sentence(10, "a ( , a not, a - ahead of a ONE while 5 of these are open");
        for (int many = 1; many <= 5; many++) {
            for (String[] row : openers(many)) {
                good("sees " + row[0] + "1" + row[1] + REST);
            }
        }
        for (String[] row : openers(5)) {
            marked("sees " + row[0] + "|(1)" + row[1] + REST);
            marked("sees " + row[0] + "|-1" + row[1] + REST);
            // Behind a - a not can't stand anyhow, and in the same place.
            marked("sees " + row[0] + "|not 1" + row[1] + REST);
        }
        marked("sees 1;worth (((((|(1))))));sleep 1;");
        marked("sees 1;worth 1;sleep -----|-1;");
    }

    private static void openTill() {
        Due.sentence(10, "(a ( till its ) , not and - till what they belong to ends)");
        good("sees (((((1)))))+(((((1)))))*(((((1)))))" + REST);
        good("sees ((((1)+(1))))" + REST);
        good("sees ((((1+(1)+(1)))))" + REST);
        marked("sees ((((1+(1)+(|(1)))))))" + REST);
        marked("sees (((((1+|(1))))))" + REST);
        good("sees -----1*-----1+-----1<-----1 and -----1" + REST);
        good("sees -(1)*-----1" + REST);
        good("sees -(((1)))-(((((1)))))" + REST);
        good("sees -(1+---1)" + REST);
        marked("sees -(1+---|-1)" + REST);
        good("sees not not not not not 1 or not not not not not 1" + REST);
        good("sees not not not not not 1 and not not not not not 1" + REST);
        // A not belongs to all of a comparison, so it is open on its other side yet.
        good("sees not 1<----1" + REST);
        marked("sees not 1<----|-1" + REST);
        good("sees not 1+((((1))))" + REST);
        marked("sees not 1+((((|(1)))))" + REST);
        marked("sees not not 1=1*---|-1" + REST);
        good("sees not 1 or -----1" + REST);
        good("sees not 1 and (((((1)))))" + REST);
        good("sees (not 1)<-----1" + REST);
        good("sees 1;worth -----1;sleep -----1;");
        good("sees (((((1)))));worth (((((1)))));sleep (((((1)))));");
        // A - between two TERMS is none that is open.
        good("sees -----1-1-1-1" + REST);
        good("sees (((((1-1-1)))))" + REST);
        good("sees 1------1" + REST);
        marked("sees 1------|-1" + REST);
    }

    private static void faultAtTheEnd() {
        Due.sentence(10, "THE TAPE, which is empty then (by a FAULT, too), is a TEXT: its number; -100 less the place of its FAULT.");
        fault("", 0);
        fault(" ", 1);
        FirstSeen x = new FirstSeen();
        Due.is("of an empty tape", x.text(), -100);
        Due.is("and again", x.text(), -100);
        Due.is("a good one then", Due.text(x, LEAST), 1);
        Due.is("of an empty tape again", x.text(), -100);
        Due.is("the next good one", Due.text(x, LEAST), 2);
        String sum = "sees 1;worth 1;sleep " + "1+".repeat(68);
        good(sum + "10;");
        fault(sum + "1+1", 160);
        fault(sum + "10+", 160);
        fault(sum + "1 ?", 159);
        fault(sum + "1 1", 159);
        fault(sum + " ??", 158);
        fault("a".repeat(160), 0);
        fault(" ".repeat(159) + "a", 159);
        fault(" ".repeat(156) + "sees", 160);
    }

    // ---- texts

    private static void texts() {
        Due.sentence(10, "There are 6 TEXTS at most, TEXT 0 with them.");
        FirstSeen x = new FirstSeen();
        Due.is("one at first", x.count(4), 1);
        for (int i = 1; i < 6; i++) {
            Due.is("a FAULT takes none", Due.text(x, "sees"), -104);
            Due.is("number " + i, Due.text(x, "sees 1;worth " + i + ";sleep 0;"), i);
            Due.is("so many", x.count(4), i + 1);
        }
        Due.is("a seventh", Due.text(x, LEAST), FULL);
        Due.is("six", x.count(4), 6);
        x.thing(0, 1, 0);
        x.sleeper(0, 1, 0);
        for (int i = 0; i < 6; i++) {
            Due.is("THE RULE was", x.force(i), i == 0 ? 0 : i - 1);
            Due.is("by TEXT " + i, x.left(0), i == 0 ? -23 : i);
        }
        x.image();
        x.back();
        Due.is("none goes by an image", x.count(4), 6);
    }

    private static void fullTexts(FirstSeen x) {
        for (int i = 1; i < 6; i++) {
            Due.text(x, LEAST);
        }
    }

    private static void textsAreFull() {
        Due.sentence(10, "FULL (ahead of all): no TEXT more has room (THE TAPE stays).");
        Twin.unchanged("of an empty tape", EdgeTextTest::fullTexts, FirstSeen::text, FULL);
        Twin.unchanged("ahead of a FAULT", x -> {
            fullTexts(x);
            x.feed('#');
        }, FirstSeen::text, FULL);
        Twin.unchanged("of a good one", x -> {
            fullTexts(x);
            begun(x);
        }, FirstSeen::text, FULL);
        FirstSeen x = new FirstSeen();
        fullTexts(x);
        fullTape(x);
        Due.is("of a full tape", x.text(), FULL);
        Due.is("which stays", x.count(5), 160);
        Due.is("so that no byte comes behind it", x.feed(32), FULL);
        FirstSeen y = new FirstSeen();
        fullTexts(y);
        y.feed(32);
        y.text();
        Due.is("the next byte comes behind", y.feed(32), 2);
    }

    // ---- what an E is

    /** Whether the one thing, 2 FAR in minute 3 and fog 4, 5 HIGH, is seen by sleeper 1. */
    private static void sees(String e, boolean due) {
        FirstSeen x = Due.ruledBy("sees " + e + REST);
        x.thing(0, 14, 0);
        x.town(0, 14, 5);
        x.town(1, 0, 4);
        x.sleeper(0, 0, 0);
        x.sleeper(12, 31, 0);
        Due.is("sees " + e, x.seen(1, 0), due ? 0 : FirstSeen.NONE);
    }

    private static void wraps() {
        Due.sentence(10, "An E is an int (32 bits, wrapping)");
        String least = "8192*8*8192*4";
        sees(least + "<0", true);
        sees(least + "-1<0", false);
        sees(least + "-1<" + least, false);
        sees(least + "<" + least + "-1", true);
        sees(least + "-1+1=" + least, true);
        sees("-(" + least + ")=" + least, true);
        sees("0-(" + least + ")=" + least, true);
        sees("-(" + least + "-1)=" + least + "+1", true);
        sees("(" + least + ")*2", false);
        sees("(" + least + ")*3=" + least, true);
        sees("(" + least + ")*-1=" + least, true);
        sees("8192*8*8192*8", false);
        Due.is("what it is by Java", 9999 * 9999 * 9999, -1027349969);
        sees("9999*9999*9999=-(1027*1000*1000+349*1000+969)", true);
    }

    private static void truth() {
        Due.sentence(10, "of or, and, not, <, = 1 or 0 (what is not 0 is true)");
        for (int a = -1; a <= 2; a++) {
            for (int b = -1; b <= 2; b++) {
                String one = a < 0 ? "(-1)" : "" + a;
                String other = b < 0 ? "(-1)" : "" + b;
                sees("(" + one + " or " + other + ")=" + (a != 0 || b != 0 ? 1 : 0), true);
                sees("(" + one + " and " + other + ")=" + (a != 0 && b != 0 ? 1 : 0), true);
                sees("(" + one + "<" + other + ")=" + (a < b ? 1 : 0), true);
                sees("(" + one + "=" + other + ")=" + (a == b ? 1 : 0), true);
            }
            String one = a < 0 ? "(-1)" : "" + a;
            sees("(not " + one + ")=" + (a == 0 ? 1 : 0), true);
            sees("not not " + one, a != 0);
        }
        Due.sentence(10, "sees: whether one sees it (not 0; besides SHOWS).");
        sees("0", false);
        sees("1", true);
        sees("-1", true);
        sees("9999", true);
        sees("8192*8*8192*4", true);
    }

    private static void names() {
        Due.sentence(10, "Of a SLEEPER and a THING: far: FAR; minute: in which the one WAKES; fog: FOG; high: how HIGH the CELL is in which the THING is then; one, thing: their numbers.");
        String[] names = {"far", "minute", "fog", "high", "one", "thing"};
        int[] values = {2, 3, 4, 5, 1, 0};
        for (int i = 0; i < 6; i++) {
            sees(names[i] + "=" + values[i], true);
            sees(names[i] + "<" + values[i], false);
            sees(names[i] + "<" + (values[i] + 1), true);
        }
        // The greatest that each can be: FAR 5, minute 23, fog 9, 9 high, sleeper 4, thing 5.
        FirstSeen x = Due.ruledBy("sees far=5 and minute=23 and fog=9 and high=9 and one=4 and thing=5;worth 50;sleep 0;");
        for (int i = 0; i < 5; i++) {
            x.thing(4, 0, 5);
        }
        x.thing(4, 35, 5);
        x.town(0, 35, 9);
        x.town(1, 0, 9);
        for (int i = 0; i < 5; i++) {
            x.sleeper(30, 231, 0);
        }
        Due.is("the greatest", x.seen(4, 0), 5);
        Due.is("to one alone", x.seen(3, 0), FirstSeen.NONE);
        Due.is("the one thing", x.seen(4, 1), FirstSeen.NONE);
        FirstSeen y = Due.ruledBy("sees far=1 and not(minute or fog or high or one or thing);worth 50;sleep 0;");
        y.thing(0, 6, 0);
        y.sleeper(0, 2, 0);
        Due.is("the least", y.seen(0, 0), 0);
        // A walking thing counts by the cell in which it is then, not by its HOME.
        FirstSeen z = Due.ruledBy("sees high=7;worth 0;sleep 0;");
        z.thing(1, 6, 0);
        z.town(0, 9, 7);
        z.sleeper(3, 32, 0);
        Due.is("where it is then", z.seen(0, 0), 0);
        z.town(0, 9, 0);
        z.town(0, 6, 7);
        Due.is("not at HOME", z.seen(0, 0), FirstSeen.NONE);
    }

    private static void force() {
        Due.sentence(11, "A TEXT is THE RULE: which was. BAD.");
        FirstSeen x = new FirstSeen();
        Due.is("TEXT 0 alone", x.force(0), 0);
        Due.is("no TEXT 1 yet", x.force(1), BAD);
        fullTexts(x);
        Due.is("the last", x.force(5), 0);
        for (int wrong : new int[] {-1, 6, MIN, MAX}) {
            Due.is("TEXT " + wrong, x.force(wrong), BAD);
        }
        Due.is("THE RULE stays by refusals", x.count(6), 5);
        Due.is("the first", x.force(0), 5);
        Due.is("the first again", x.force(0), 0);
        Twin.unchanged("a TEXT above", t -> {
            Due.text(t, "sees 1;worth 5;sleep 2;");
            t.force(1);
            t.sleeper(0, 0, 0);
        }, t -> t.force(2), BAD);
        Twin.unchanged("a TEXT below", t -> {
            Due.text(t, "sees 1;worth 5;sleep 2;");
            t.force(1);
            t.sleeper(0, 0, 0);
        }, t -> t.force(-1), BAD);
    }
}
