import java.lang.reflect.Constructor;
import java.lang.reflect.Field;
import java.lang.reflect.Method;
import java.lang.reflect.Modifier;
import java.nio.file.Files;
import java.nio.file.Path;
import java.util.Set;
import java.util.TreeSet;
import java.util.regex.Matcher;
import java.util.regex.Pattern;

/** The face of the class, whole and nothing beside it, and what LANGUAGE.md forbids in words. */
public final class FaceTest {
    private static final String[] FACE = {
        "int town(int,int,int)", "int high(int)", "int thing(int,int,int)",
        "int sleeper(int,int,int)", "int set(int,int,int)", "int told(int,int)",
        "int where(int,int)", "int feed(int)", "int text()", "int force(int)",
        "int seen(int,int)", "int has(int)", "int whose(int)", "int left(int)",
        "int best(int,int,int)", "int turn(int)", "int rest()", "int beds(int)",
        "int wall(int,int)", "int fell(int)", "int turned(int,int)", "int woke(int,int)",
        "int judge(int)", "int drawn(int)", "long chance(int,int,int,int)", "int image()",
        "int back()", "int count(int)", "int sheet(int,int,int)", "int cell(int,int,int)",
        "int copy(int,int,int,int,int)", "int heights(int,int,int,int)", "int taken(int,int)",
    };
    private static final String[] FORBIDDEN = {
        "throw", "throws", "try", "catch", "finally", "synchronized", "assert", "->", "::",
        "import static", "Exact(", "protected", "MIN_VALUE", "MAX_VALUE",
    };

    public static void main(String[] args) throws Exception {
        Set<String> names = new TreeSet<>();
        Set<String> due = new TreeSet<>(Set.of(FACE));
        Set<String> open = new TreeSet<>();
        for (String line : FACE) {
            names.add(line.replaceAll(".* |\\(.*", ""));
        }
        for (Method m : FirstSeen.class.getDeclaredMethods()) {
            if (!Modifier.isPrivate(m.getModifiers())) {
                open.add(line(m));
            } else {
                Due.holds("private " + m.getName() + " has a name of its own",
                        !names.contains(m.getName()));
            }
        }
        Due.holds("the face is " + open, open.equals(due));
        constants();
        constructors();
        Due.holds("the class is public and final",
                Modifier.isPublic(FirstSeen.class.getModifiers())
                        && Modifier.isFinal(FirstSeen.class.getModifiers()));
        Due.holds("twelve classes at most", FirstSeen.class.getDeclaredClasses().length <= 11);
        source();
        Due.end("FaceTest");
    }

    private static String line(Method m) {
        StringBuilder line = new StringBuilder(m.getReturnType() + " " + m.getName() + "(");
        for (Class<?> p : m.getParameterTypes()) {
            line.append(line.charAt(line.length() - 1) == '(' ? "" : ",").append(p);
        }
        return line.append(")").toString();
    }

    private static void constants() {
        Due.is("NONE", FirstSeen.NONE, -1);
        Due.is("BAD", FirstSeen.BAD, -2);
        Due.is("STATE", FirstSeen.STATE, -3);
        Due.is("FULL", FirstSeen.FULL, -4);
        Due.is("NO", FirstSeen.NO, -4611686018427387904L);
        int open = 0;
        for (Field f : FirstSeen.class.getDeclaredFields()) {
            open += Modifier.isPrivate(f.getModifiers()) ? 0 : 1;
            Due.holds(f.getName() + " is no changing static field",
                    !Modifier.isStatic(f.getModifiers()) || Modifier.isFinal(f.getModifiers()));
        }
        Due.is("open fields", open, 5);
    }

    private static void constructors() {
        Constructor<?>[] all = FirstSeen.class.getDeclaredConstructors();
        Due.is("constructors", all.length, 1);
        Due.is("parameters", all[0].getParameterCount(), 0);
        Due.holds("it is public", Modifier.isPublic(all[0].getModifiers()));
    }

    private static void source() throws Exception {
        String text = Files.readString(Path.of("src/main/java/FirstSeen.java"));
        String code = text.replaceAll("(?s)/\\*.*?\\*/|//[^\n]*", "");
        for (String word : FORBIDDEN) {
            String edge = Character.isLetter(word.charAt(0)) ? "\\b" : "";
            Due.holds("no " + word + " in the source",
                    !Pattern.compile(edge + Pattern.quote(word) + edge).matcher(code).find());
        }
        Matcher imports = Pattern.compile("import ([a-zA-Z.*]+);").matcher(code);
        while (imports.find()) {
            Due.holds("the import of " + imports.group(1),
                    Set.of("java.util.Arrays", "java.util.ArrayList", "java.util.List")
                            .contains(imports.group(1)));
        }
    }
}
