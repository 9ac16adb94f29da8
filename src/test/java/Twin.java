import java.util.function.Consumer;
import java.util.function.Function;
import java.util.function.ToLongFunction;

/**
 * Two objects that are made alike, of which one alone gets a call that is refused, or that only
 * asks: after that both must answer alike, whatever is asked of them. As some things are learnt
 * only by calls that change others, each question is put to a pair of its own.
 */
final class Twin {
    private Twin() {
    }

    /** The call answers as is due, and leaves all as it was. */
    static void unchanged(String what, Consumer<FirstSeen> made, ToLongFunction<FirstSeen> call, long due) {
        compare(what, made, call, due, Twin::now);
        compare(what, made, call, due, Twin::kept);
        compare(what, made, call, due, Twin::tape);
        for (int s = 0; s < 4; s++) {
            int sheet = s;
            compare(what, made, call, due, x -> items(x, sheet));
        }
    }

    private static void compare(String what, Consumer<FirstSeen> made, ToLongFunction<FirstSeen> call,
            long due, Function<FirstSeen, String> question) {
        FirstSeen one = new FirstSeen();
        FirstSeen other = new FirstSeen();
        made.accept(one);
        made.accept(other);
        Due.is(what, call.applyAsLong(one), due);
        String is = question.apply(one);
        String was = question.apply(other);
        Due.holds(what + " leaves all as it was: " + was + " became " + is, is.equals(was));
    }

    static String now(FirstSeen x) {
        StringBuilder b = new StringBuilder("counts");
        for (int what = 0; what < 7; what++) {
            b.append(' ').append(x.count(what));
        }
        b.append(", heights ");
        for (int c = 0; c < 36; c++) {
            b.append(x.high(c));
        }
        for (int t = 0; t < x.count(1); t++) {
            b.append(", thing");
            for (int what = 0; what < 4; what++) {
                b.append(' ').append(x.told(t, what));
            }
        }
        for (int s = 0; s < x.count(0); s++) {
            b.append(", sleeper");
            for (int what = 4; what < 8; what++) {
                b.append(' ').append(x.told(s, what));
            }
            b.append(" has ").append(x.has(s)).append(" left ").append(x.left(s));
        }
        return b.toString();
    }

    private static String kept(FirstSeen x) {
        return "back " + x.back() + ", " + now(x);
    }

    private static String tape(FirstSeen x) {
        return "text " + x.text() + ", force " + x.force(x.count(4) - 1) + ", left " + x.left(-1);
    }

    /** Sort, size and items of a sheet: items 0 .. 9 as they are, others as x. */
    static String items(FirstSeen x, int sheet) {
        int sort = 0;
        while (sort < 3 && x.heights(sheet, sort, 0, 0) != 0) {
            sort++;
        }
        StringBuilder b = new StringBuilder("sheet " + sheet + " of sort " + sort + ": ");
        int other = sheet == 0 ? 1 : 0;
        x.sheet(other, sort, 2);
        for (int i = 0; x.copy(sheet, i, other, 1, 1) == 1; i++) {
            b.append(x.heights(other, sort, 0, 1) == 1 ? "" + x.high(0) : "x");
        }
        return b.toString();
    }
}
