/** Promises 9 to 11: the tape, texts and their faults, the rule. */
public final class TextTest {
    private static final int BAD = FirstSeen.BAD, FULL = FirstSeen.FULL;

    public static void main(String[] args) {
        feed();
        faults();
        depth();
        wholeTape();
        full();
        values();
        force();
        Due.end("TextTest");
    }

    private static void feed() {
        FirstSeen x = new FirstSeen();
        Due.is("9: below", x.feed(-1), BAD);
        Due.is("9: above", x.feed(256), BAD);
        for (int i = 1; i <= 160; i++) {
            Due.is("9: feed " + i, x.feed(i == 1 ? 255 : 0), i);
        }
        Due.is("9: FULL", x.feed(32), FULL);
        Due.is("9: BAD ahead of FULL", x.feed(256), BAD);
        Due.is("9: count", x.count(5), 160);
        Due.is("10: a byte that begins none", x.text(), -100);
        Due.is("10: empty by a fault", x.count(5), 0);
        Due.is("9: from the start again", x.feed(32), 1);
    }

    private static void fault(String text, int place) {
        FirstSeen x = new FirstSeen();
        Due.is("10: fault of \"" + text + "\"", Due.text(x, text), -100 - place);
        Due.is("10: the tape is empty", x.count(5), 0);
        Due.is("10: no text more", x.count(4), 1);
    }

    private static void good(String text) {
        FirstSeen x = new FirstSeen();
        Due.is("10: text \"" + text + "\"", Due.text(x, text), 1);
        Due.is("10: the tape is empty", x.count(5), 0);
        Due.is("10: texts", x.count(4), 2);
        Due.is("10: the rule is as before", x.count(6), 0);
    }

    private static void faults() {
        good("sees 1;worth 1;sleep 1;");
        good("sees1;worth2;sleep3;");
        good("\n sees\n1 ; worth 0;sleep 23-minute ; \n");
        good("sees far or minute and fog;worth high+one-thing;sleep 9999*0000<1;");
        good("sees not not far<1;worth not(1=2)=3;sleep -1*-(2)--3;");
        good("sees 0or 1and 2;worth 1;sleep 1;");
        fault("", 0);
        fault("  ", 2);
        fault("sees", 4);
        fault("sees ", 5);
        fault("worth 1;", 0);
        fault("see 1;", 0);
        fault("seesx 1;", 0);
        fault("seesfar;", 0);
        fault("sees ;", 5);
        fault("sees 1", 6);
        fault("sees 1;", 7);
        fault("sees 1; sees 1;", 8);
        fault("sees 1;worth 1;", 15);
        fault("sees 1;worth 1;sleep 1", 22);
        fault("sees 1;worth 1;sleep 1 \n", 24);
        fault("sees 1;worth 1;sleep 1;;", 23);
        fault("sees 1;worth 1;sleep 1; sees", 24);
        fault("sees 1;worth 1;sleep 1;@", 23);
        fault("sees 1;worth 1;sleep 1;12345", 23);
        fault("sees 1;worth 1;sleep 1;x", 23);
        fault("sees 12345;", 5);
        fault("sees 00000;", 5);
        fault("sees 1234 5;", 10);
        fault("sees 1 1;", 7);
        fault("sees far far;", 9);
        fault("sees 1 12345;", 7);
        fault("sees or;", 5);
        fault("sees worth;", 5);
        fault("sees sees;", 5);
        fault("sees 1 or;", 9);
        fault("sees 1 and or;", 11);
        fault("sees 1 + not 1;", 9);
        fault("sees 1 < not 1;", 9);
        fault("sees - not 1;", 7);
        fault("sees 1 < 2 < 3;", 11);
        fault("sees 1 = 2 < 3;", 11);
        fault("sees 1 < < 3;", 9);
        fault("sees + 1;", 5);
        fault("sees * 1;", 5);
        fault("sees 1 * * 1;", 9);
        fault("sees (1;", 7);
        fault("sees (1 2);", 8);
        fault("sees 1);", 6);
        fault("sees ();", 6);
        fault("sees 1 (2);", 7);
        fault("sees 1,2;", 6);
        fault("sees Far;", 5);
        fault("SEES 1;", 0);
        fault("sees\t1;", 4);
        fault("sees 1\r;", 6);
        fault("sees a;", 5);
        fault("sees farz;", 5);
        fault("sees afar;", 5);
        fault("sees 1far;", 6);
        fault("sees 1;worth @;", 13);
        fault("sees 1>2;", 6);
        fault("sees 1/2;", 6);
        fault("sees \u00e9;", 5);
        fault("sees 1;worth thin;", 13);
        fault("sees 1;worth things;", 13);
        fault("sees 1 ; worth 1 sleep 1 ;", 17);
    }

    private static void depth() {
        good("sees (((((1)))))+(1);worth 1;sleep 1;");
        good("sees -----1--1;worth 1;sleep 1;");
        good("sees not not not not not 1 and not 1;worth 1;sleep 1;");
        good("sees not(-(not 1))and(1);worth -----1*-----1;sleep 1;");
        good("sees ((1))+((1))+((1))*((((-1))));worth 1;sleep 1;");
        good("sees not 1 and not 1 and not 1 and not 1 and not 1 and not 1;worth 1;sleep 1;");
        fault("sees ((((((1))))));worth 1;sleep 1;", 10);
        fault("sees ------1;worth 1;sleep 1;", 10);
        fault("sees 1------1;worth 1;sleep 1-------1;", 35);
        fault("sees not not not not not not 1;", 25);
        fault("sees not not not not not (1);", 25);
        fault("sees not not not not not -1;", 25);
        fault("sees not not not not not 1<-1;", 27);
        fault("sees (-(-(-1)));", 10);
        fault("sees ((((-(1)))));", 10);
        fault("sees not(-(not(1)))and(1);", 14);
        // A fault ahead of the one too deep comes first, and one behind it later.
        fault("sees (((1 1(((1", 10);
        fault("sees ((((((x", 10);
    }

    /** Texts that take all 160 bytes, ending in each sort of token. */
    private static void wholeTape() {
        String most = "sees 1;worth 1;sleep " + "1+".repeat(68);
        good(most + "10;");
        fault(most + "1+1", 160);
        fault(most + "far", 160);
        fault(most + "  1", 160);
        fault(most + "far;", 160);
        fault(most + "11+", 160);
        fault(most + "   ", 160);
        fault(most + "1;;", 159);
        value("1+".repeat(68) + "10", 78);
        value("1-".repeat(66) + "66*-1", 2);
        value("1*".repeat(68) + "42", 42);
        value("0or ".repeat(34) + "42", 1);
        value("1and ".repeat(27) + "42", 1);
    }

    private static void full() {
        FirstSeen x = new FirstSeen();
        for (int i = 1; i < 6; i++) {
            Due.is("10: number", Due.text(x, "sees 1;worth 1;sleep 1;"), i);
            Due.is("10: texts", x.count(4), i + 1);
        }
        Due.is("10: FULL", Due.text(x, "sees"), FULL);
        Due.is("10: the tape stays", x.count(5), 4);
        Due.is("10: FULL again", x.text(), FULL);
        Due.is("9: and goes on", x.feed(255), 5);
    }

    /** What sleep costs shows an expression's value, if it lies within 0 .. 99. */
    private static void value(String expression, int due) {
        FirstSeen x = Due.ruledBy("sees 1;worth 0;sleep " + expression + ";");
        x.sleeper(0, 0, 0);
        x.sleeper(0, 70, 0);
        Due.is("10: value of " + expression, -x.left(1), due);
    }

    private static void values() {
        value("7", 7);
        value("0099", 99);
        value("2+3*4", 14);
        value("(2+3)*4", 20);
        value("20-3-4", 13);
        value("20-(3-4)", 21);
        value("9-2*3", 3);
        value("--5", 5);
        value("10--5", 15);
        value("10+-5*-2", 20);
        value("-3*-4", 12);
        value("3<4", 1);
        value("4<4", 0);
        value("-1<0", 1);
        value("4=4", 1);
        value("4=5", 0);
        value("2+2=4", 1);
        value("(1<2)+(1=1)*5", 6);
        value("5 or 0", 1);
        value("0 or 0", 0);
        value("0 or -7", 1);
        value("5 and 7", 1);
        value("5 and 0", 0);
        value("1 and 5", 1);
        value("5 and 1", 1);
        value("0 and 5", 0);
        value("1 or 1", 1);
        value("-1 and -1", 1);
        value("1 or 0 and 0", 1);
        value("(1 or 0)and 0", 0);
        value("not 0", 1);
        value("not 9", 0);
        value("not 1<0", 1);
        value("(not 1)<1", 1);
        value("not 0 and 0", 0);
        value("not not 8", 1);
        value("not 0=0", 0);
        value("far+fog+high+thing", 0);
        value("minute*10+one", 71);
        value("5-6", 0);
        value("100", 99);
        value("9999*9999*9999*0+3", 3);
        // 65536 * 65536 wraps to 0, and 65536 * 32768 to the least int, less 1 to the most.
        value("8192*8*8192*8+42", 42);
        value("8192*8*8192*4", 0);
        value("8192*8*8192*4-1", 99);
        value("8192*8*8192*4<0", 1);
        value("-(8192*8*8192*4)<0", 1);
        value("1or 1and 1<1+1*(1or 1and 1<1+1*(1or 1and 1<1+1*(1or 1and 1<1+1*(1or 1and 1<1+1*(1or 1and 1<1+1)))))", 1);
        value("3*(3+(2*(2+(4-(1+1)))))", 33);
        FirstSeen x = Due.ruledBy("sees 1;worth 0;sleep 7;");
        x.sleeper(0, 0, 0);
        Due.is("10: TEXT 0 costs by the minute", x.left(0), -7);
        x.force(0);
        Due.is("10: TEXT 0 is there", x.left(0), -23);
        x.set(5, 0, 23);
        Due.is("10: TEXT 0 late", x.left(0), 0);
    }

    private static void force() {
        FirstSeen x = new FirstSeen();
        Due.is("11: none such", x.force(1), BAD);
        Due.is("11: below", x.force(-1), BAD);
        Due.text(x, "sees 0;worth 0;sleep 0;");
        Due.text(x, "sees 1;worth 5;sleep 0;");
        Due.is("11: which was", x.force(2), 0);
        Due.is("11: which was then", x.force(1), 2);
        Due.is("11: none such yet", x.force(3), BAD);
        Due.is("11: BAD changes nothing", x.count(6), 1);
        Due.is("11: the same", x.force(1), 1);
        x.thing(0, 1, 100);
        x.sleeper(0, 1, 0);
        Due.is("11: by text 1", x.has(0), -1);
        x.force(2);
        Due.is("11: by text 2", x.left(0), 15);
    }
}
