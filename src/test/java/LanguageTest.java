import java.lang.reflect.Constructor;
import java.lang.reflect.Field;
import java.lang.reflect.Method;
import java.lang.reflect.Modifier;
import java.nio.file.Files;
import java.nio.file.Path;
import java.util.ArrayList;
import java.util.List;
import java.util.Set;
import java.util.TreeSet;
import java.util.regex.Matcher;
import java.util.regex.Pattern;

/** What of LANGUAGE.md can be seen in the classes and in the source's words. */
public final class LanguageTest {
    private static final String FACE =
        "far 3, hush 2, stride 1, count 1, feed 6, text 0, force 1, person 4, move 2, told 2, promise 4, promised 2,"
        + " say 2, unsay 0, said 2, hears 2, heard 1, nobody 0, owe 2, load 2, done 1, sum 1, judge 0, walk 0, best 2,"
        + " foe 3, loud 3, spare 0, even 2, hardest 1, flee 2, send 2, rest 1, chance 2, lost 1, laws 1, witness 1,"
        + " alibi 2, drawn 2, odds 4, image 0, back 0, sheet 3, cell 3, copy 5, promisesBy 4, taken 2";
    private static final Set<String> LONG = Set.of("chance", "lost", "odds");

    public static void main(String[] args) throws Exception {
        Class<?> face = WhoeverHeard.class;
        List<Class<?>> all = new ArrayList<>(List.of(face.getDeclaredClasses()));
        face(face);
        names(face, all);
        inside(all);
        all.add(face);
        for (Class<?> c : all) shape(c);
        source(Files.readString(Path.of("src/main/java/WhoeverHeard.java")));
        Due.end();
    }

    private static void holds(String rule, boolean is) {
        Due.due(rule, is ? 1 : 0, 1);
    }

    private static void face(Class<?> face) {
        Set<String> want = new TreeSet<>(List.of(FACE.split(", ")));
        Set<String> found = new TreeSet<>();
        for (Method m : face.getDeclaredMethods()) {
            if (Modifier.isPrivate(m.getModifiers())) continue;
            found.add(m.getName() + " " + m.getParameterCount());
            holds("1: public " + m, m.getModifiers() == Modifier.PUBLIC);
            holds("1: answers " + m, m.getReturnType() == (LONG.contains(m.getName()) ? long.class : int.class));
            for (Class<?> p : m.getParameterTypes()) holds("1: int to " + m, p == int.class);
        }
        holds("1: the face " + found, found.equals(want));
        holds("1: public and final", face.getModifiers() == (Modifier.PUBLIC | Modifier.FINAL));
        for (Constructor<?> c : face.getDeclaredConstructors()) {
            holds("1: " + c, c.getModifiers() == Modifier.PUBLIC && c.getParameterCount() == 0);
        }
        Set<String> constants = new TreeSet<>();
        for (Field f : face.getDeclaredFields()) {
            if (!Modifier.isPrivate(f.getModifiers())) constants.add(f.getName());
        }
        holds("1: constants " + constants, constants.equals(Set.of("NONE", "BAD", "STATE", "FULL", "NO")));
        Due.due("NONE", WhoeverHeard.NONE, -1);
        Due.due("BAD", WhoeverHeard.BAD, -2);
        Due.due("STATE", WhoeverHeard.STATE, -3);
        Due.due("FULL", WhoeverHeard.FULL, -4);
        Due.due("NO", WhoeverHeard.NO, -4611686018427387904L);
    }

    private static void names(Class<?> face, List<Class<?>> inside) {
        Set<String> open = new TreeSet<>();
        for (Method m : face.getDeclaredMethods()) if (Modifier.isPublic(m.getModifiers())) open.add(m.getName());
        List<Class<?>> all = new ArrayList<>(inside);
        all.add(face);
        for (Class<?> c : all) {
            for (Method m : c.getDeclaredMethods()) {
                if (!Modifier.isPublic(m.getModifiers())) holds("1: a public one's name " + m, !open.contains(m.getName()));
            }
        }
    }

    private static void inside(List<Class<?>> inside) {
        holds("11: twelve classes", inside.size() + 1 <= 12);
        for (Class<?> c : inside) {
            int m = c.getModifiers();
            holds("2: static " + c, Modifier.isStatic(m));
            holds("1: not public " + c, !Modifier.isPublic(m) && !Modifier.isProtected(m));
            holds("2: none inside " + c, c.getDeclaredClasses().length == 0);
        }
    }

    private static void shape(Class<?> c) {
        int own = 0;
        for (Field f : c.getDeclaredFields()) {
            if (!Modifier.isStatic(f.getModifiers())) own++;
            else holds("5: final " + f, Modifier.isFinal(f.getModifiers()));
        }
        holds("11: twenty fields of " + c, own <= 20);
        for (Method m : c.getDeclaredMethods()) {
            holds("11: seven parameters of " + m, m.getParameterCount() <= 7);
            holds("6: no equals, hashCode, toString: " + m, !Set.of("equals", "hashCode", "toString").contains(m.getName()));
        }
    }

    private static void source(String text) {
        String code = text.replaceAll("(?s)/\\*.*?\\*/", "").replaceAll("//[^\n]*", "").replaceAll("\"[^\"\n]*\"", "\"\"");
        for (String word : new String[] {"throw", "throws", "try", "catch", "synchronized", "assert", "import", "package",
            "native", "volatile", "transient", "protected", "record", "Object", "Random", "Thread"}) {
            holds("4, 6: " + word, !Pattern.compile("\\b" + word + "\\b").matcher(code).find());
        }
        for (String sign : new String[] {"->", "::", "Exact", "@"}) holds("2, 4: " + sign, !code.contains(sign));
        Matcher system = Pattern.compile("\\bSystem\\.(\\w+)").matcher(code);
        while (system.find()) holds("4: System." + system.group(1), system.group(1).equals("arraycopy"));
        Matcher maths = Pattern.compile("\\b(Math|Integer)\\.(\\w+)").matcher(code);
        while (maths.find()) holds("4: " + maths.group(), Set.of("max", "min", "abs", "bitCount").contains(maths.group(2)));
        for (String line : code.split("\n")) {
            if (!Pattern.compile("\\bnew\\b").matcher(line).find()) continue;
            holds("12: all rows and parts are made with the object: " + line,
                line.matches(" +(private )?final [\\w\\[\\]]+ \\w+ = new .*;") || line.matches(" {8}\\w+ = new [A-Z]\\w+\\(.*\\);"));
        }
        int since = 0;
        String indent = null;
        for (String line : code.split("\n")) {
            Matcher opens = Pattern.compile("^( {4}| {8})[a-zA-Z].*\\) \\{$").matcher(line);
            if (indent == null && opens.find()) indent = opens.group(1);
            since = indent == null ? 0 : since + 1;
            holds("11: short methods, at " + line, since <= 60);
            if (line.equals(indent + "}")) indent = null;
        }
        for (int i = 0; i < text.length(); i++) {
            if (text.charAt(i) > 126) holds("4: a sign above 126", false);
        }
    }
}
