import java.io.IOException;
import java.lang.reflect.Constructor;
import java.lang.reflect.Field;
import java.lang.reflect.Method;
import java.lang.reflect.Modifier;
import java.nio.file.Files;
import java.nio.file.Path;
import java.util.ArrayList;
import java.util.List;
import java.util.Set;
import java.util.TreeSet;
import java.util.regex.Matcher;
import java.util.regex.Pattern;

/** The face of the document, and what can be seen of ../shared/LANGUAGE.md's rules in the class's text. */
public final class RulesTest {
    public static void main(String[] args) throws IOException {
        Checks c = new Checks("rules");
        String document = Files.readString(Path.of("../shared/DOC.md"));
        String source = Files.readString(Path.of("src/main/java/OrdersTold.java"));
        face(c, document);
        constants(c);
        String code = withoutComments(source);
        forbidden(c, code);
        names(c);
        sizes(c, code);
        madeInCalls(c, code);
        c.end();
    }

    private static void none(Checks c, String rule, Iterable<String> found) {
        int n = 0;
        for (String one : found) {
            System.out.println(rule + ": " + one.strip());
            n++;
        }
        c.due(rule, n, 0);
    }

    private static void face(Checks c, String document) {
        Set<String> wanted = new TreeSet<>();
        Matcher told = Pattern.compile("public int (\\w+)\\(([^)]*)\\);").matcher(document);
        while (told.find()) {
            wanted.add(told.group(1) + "(" + told.group(2).replaceAll(" \\w+(?=,|$)", "") + ")");
        }
        c.due("face: methods of the document", wanted.size(), 39);
        Set<String> found = new TreeSet<>();
        List<String> open = new ArrayList<>();
        for (Method method : OrdersTold.class.getDeclaredMethods()) {
            List<String> types = new ArrayList<>();
            for (Class<?> type : method.getParameterTypes()) {
                types.add(type.getName());
            }
            boolean isPublic = Modifier.isPublic(method.getModifiers()) && !Modifier.isStatic(method.getModifiers());
            if (isPublic && method.getReturnType() == int.class) {
                found.add(method.getName() + "(" + String.join(", ", types) + ")");
            } else if (!Modifier.isPrivate(method.getModifiers())) {
                open.add(method.toString());
            }
        }
        c.due("face: just the document's methods", found.equals(wanted) ? 1 : 0, 1);
        for (Field field : OrdersTold.class.getDeclaredFields()) {
            if (!Modifier.isPrivate(field.getModifiers()) && !field.getName().matches("[A-Z]+")) {
                open.add(field.toString());
            }
            if (Modifier.isStatic(field.getModifiers()) && !Modifier.isFinal(field.getModifiers())) {
                open.add(field.toString());
            }
        }
        for (Class<?> inside : OrdersTold.class.getDeclaredClasses()) {
            if (!Modifier.isStatic(inside.getModifiers()) || Modifier.isPublic(inside.getModifiers())) {
                open.add(inside.toString());
            }
        }
        none(c, "face: nothing else is open", open);
        Constructor<?>[] constructors = OrdersTold.class.getDeclaredConstructors();
        c.due("face: one constructor", constructors.length, 1);
        c.due("face: it is public, without arguments", constructors[0].toString().equals("public OrdersTold()") ? 1 : 0, 1);
        int modifiers = OrdersTold.class.getModifiers();
        c.due("face: public and final", Modifier.isPublic(modifiers) && Modifier.isFinal(modifiers) ? 1 : 0, 1);
    }

    private static void constants(Checks c) {
        int[] got = {OrdersTold.BAD, OrdersTold.NOT, OrdersTold.FULL, OrdersTold.NONE, OrdersTold.STOP, OrdersTold.NULL,
            OrdersTold.CAST, OrdersTold.INDEX, OrdersTold.SIZE};
        int[] want = {-1, -2, -3, -4, -5, -11, -12, -13, -14};
        for (int i = 0; i < want.length; i++) {
            c.due("face: constant " + i, got[i], want[i]);
        }
    }

    private static String withoutComments(String source) {
        return source.replaceAll("(?s)/\\*.*?\\*/", "").replaceAll("//[^\n]*", "");
    }

    private static List<String> found(String code, String pattern) {
        List<String> found = new ArrayList<>();
        Matcher matcher = Pattern.compile(pattern).matcher(code);
        while (matcher.find()) {
            found.add(matcher.group());
        }
        return found;
    }

    private static void forbidden(Checks c, String code) {
        none(c, "rule 6", found(code, "\\b(throw|throws|try|catch|synchronized|assert)\\b"));
        none(c, "rule 2", found(code, "->|::|new \\w+\\([^)]*\\)\\s*\\{|\\n {8,}(final |abstract |static )*class "));
        none(c, "rule 3", found(code, "\\b(?!int\\b)\\w+\\[\\]\\[\\]|\\[\\]\\[\\]\\[\\]"));
        none(c, "rule 6", found(code, "\\b(equals|hashCode|toString)\\("));
        none(c, "rule 4", found(code, "Exact\\("));
        none(c, "rule 9", found(code, "while \\(true|for \\([^;)]*;\\s*;"));
        none(c, "rule 4", found(code, "import (?!java\\.util\\.Arrays;)[^;]*;"));
        none(c, "rule 4", found(code, "\\b(Math|Arrays|Integer|System)\\.(?!min|max|bitCount|fill|arraycopy)\\w+"));
        none(c, "rule 4", found(code, "\\b(String|Object|Random|Thread|Class)\\b"));
        none(c, "rule 13", found(code, "nanoTime|currentTimeMillis|random"));
        none(c, "the file has no package", found(code, "\\bpackage\\b"));
    }

    private static void names(Checks c) {
        Set<String> open = new TreeSet<>();
        for (Method method : OrdersTold.class.getDeclaredMethods()) {
            if (Modifier.isPublic(method.getModifiers())) {
                open.add(method.getName());
            }
        }
        List<String> again = new ArrayList<>();
        List<Class<?>> classes = new ArrayList<>(List.of(OrdersTold.class.getDeclaredClasses()));
        classes.add(OrdersTold.class);
        for (Class<?> one : classes) {
            for (Method method : one.getDeclaredMethods()) {
                if (!Modifier.isPublic(method.getModifiers()) && open.contains(method.getName())) {
                    again.add(method.toString());
                }
                c.due("rule 11: parameters of " + method, method.getParameterCount() <= 7 ? 1 : 0, 1);
            }
            int fields = 0;
            for (Field field : one.getDeclaredFields()) {
                boolean isStatic = Modifier.isStatic(field.getModifiers());
                fields += isStatic ? 0 : 1;
                boolean isConstant = Modifier.isFinal(field.getModifiers()) && field.getType() == int.class;
                c.due("rule 5: " + field, !isStatic || isConstant ? 1 : 0, 1);
            }
            c.due("rule 11: fields of " + one, fields <= 20 ? 1 : 0, 1);
        }
        none(c, "rule 1: no other method bears a public one's name", again);
        c.due("rule 11: classes", classes.size() <= 12 ? 1 : 0, 1);
    }

    private static void sizes(Checks c, String code) {
        int depth = 0;
        int start = 0;
        int longest = 0;
        String[] lines = code.split("\n");
        for (int i = 0; i < lines.length; i++) {
            if (lines[i].matches(" {4}(| {4})\\S.*\\) \\{") && !lines[i].contains("class ")) {
                start = i;
                depth = lines[i].indexOf(lines[i].strip());
            }
            if (lines[i].equals(" ".repeat(depth) + "}")) {
                longest = Math.max(longest, i - start + 1);
            }
        }
        c.due("rule 11: the longest method has " + longest + " lines", longest <= 60 ? 1 : 0, 1);
    }

    /** All rows are made when the object is made: as a field, or in a constructor. */
    private static void madeInCalls(Checks c, String code) {
        List<String> made = new ArrayList<>();
        boolean inConstructor = false;
        for (String line : code.split("\n")) {
            if (line.matches(" +(public |private )?[A-Z]\\w*\\([^)]*\\) \\{")) {
                inConstructor = true;
            }
            boolean isField = line.matches(" {4}( {4})?(private |static |final )*[A-Z\\w]+(\\[\\])* \\w+ = new .*;")
                    && !inConstructor;
            if (line.contains("new ") && !isField && !inConstructor) {
                made.add(line);
            }
            if (line.matches(" {4}( {4})?\\}")) {
                inConstructor = false;
            }
        }
        none(c, "no call makes an object", made);
    }
}
