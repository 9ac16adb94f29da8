import java.io.IOException;
import java.nio.charset.StandardCharsets;
import java.nio.file.Files;
import java.nio.file.Path;

/** What the tests share: they count wrong answers, print them, and end with 1 by any. */
final class Due {
    private static int wrong = 0;
    private static int asked = 0;
    private static String page = null;
    private static String spoken = "";

    private Due() {
    }

    /** What is asked from now on speaks of these words of the document, which must be its own. */
    static void sentence(int promise, String words) {
        spoken = "promise " + promise + ", \"" + words + "\": ";
        // Where the document is not at hand, only its words can't be looked up.
        holds("the document says so", page().isEmpty() || page().contains(words));
    }

    private static String page() {
        if (page == null) {
            try {
                page = Files.readString(Path.of("../shared/DOC.md")).replaceAll("\\s+", " ");
            } catch (IOException e) {
                page = "";
            }
        }
        return page;
    }

    static void is(String call, long got, long due) {
        asked++;
        if (got != due) {
            wrong++;
            System.out.println(spoken + call + " answered " + got + ", due is " + due);
        }
    }

    static void holds(String what, boolean so) {
        is(what, so ? 1 : 0, 1);
    }

    static void end(String test) {
        System.out.println(test + ": " + asked + " answers, " + wrong + " wrong");
        if (wrong != 0) {
            System.exit(1);
        }
    }

    /** Feeds a text and answers what text() answers. */
    static int text(FirstSeen x, String text) {
        for (byte b : text.getBytes(StandardCharsets.ISO_8859_1)) {
            x.feed(b & 255);
        }
        return x.text();
    }

    /** A new object whose rule is the text. */
    static FirstSeen ruledBy(String text) {
        FirstSeen x = new FirstSeen();
        is("text \"" + text + "\"", text(x, text), 1);
        is("force(1)", x.force(1), 0);
        return x;
    }

    /** A sheet of a sort that holds just these numbers. */
    static void sheet(FirstSeen x, int sheet, int sort, int... items) {
        is("sheet", x.sheet(sheet, sort, items.length), 1);
        for (int i = 0; i < items.length; i++) {
            is("cell", x.cell(sheet, i, items[i]), 1);
        }
    }
}
