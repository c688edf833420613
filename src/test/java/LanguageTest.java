import java.io.IOException;
import java.lang.reflect.Constructor;
import java.lang.reflect.Field;
import java.lang.reflect.Method;
import java.lang.reflect.Modifier;
import java.nio.file.Files;
import java.nio.file.Path;
import java.util.ArrayList;
import java.util.List;
import java.util.Set;
import java.util.TreeSet;
import java.util.regex.Matcher;
import java.util.regex.Pattern;

/** The face of the class, and those rules of LANGUAGE.md that a look at it can tell. */
public final class LanguageTest {
    private static final String FACE = "feed(int,int,int,int,int)int end(int)int book()int page()int fault(int)int"
            + " field(int,int)int tokens(int)int token(int,int,int)int mark(int,int,int,int)int unmark(int,int)int"
            + " learn(int)int take(int,int)int undo()boolean redo()boolean marked(int,int,int,int)int"
            + " rule(int,int,int)int tries(int,int,int,int,int,int)int could(int,int)int cover(int,int)int"
            + " covers(int,int,int)int contradict(int,int,int)int stale(int)int cut(int,int,int,int)int by(int,int)int"
            + " letter(int,int,int)int pattern(int,int)int proposed(int,int,int,int)int alike(int,int)int"
            + " drift(int,int)int strange(int)int sturdy(int,int)int right(int)int enough(int)int"
            + " opinion(int,int,int)int next(int)int without(int,int)int image(int)int back(int)int about(int)int";

    public static void main(String[] args) throws IOException {
        face();
        List<Class<?>> all = new ArrayList<>(List.of(FieldCutter.class.getDeclaredClasses()));
        due("classes inside: " + all.size(), all.size() < 12);
        for (Class<?> inside : all) {
            int m = inside.getModifiers();
            due(inside + " static", Modifier.isStatic(m) && !Modifier.isPublic(m) && !Modifier.isProtected(m));
        }
        all.add(FieldCutter.class);
        for (Class<?> one : all) {
            members(one);
        }
        source(Files.readString(Path.of("src/main/java/FieldCutter.java")));
        Due.finish("LanguageTest");
    }

    private static void due(String what, boolean holds) {
        Due.due(what, holds, true);
    }

    private static String signed(Method m) {
        StringBuilder s = new StringBuilder(m.getName()).append('(');
        for (int i = 0; i < m.getParameterCount(); i++) {
            s.append(i > 0 ? "," : "").append(m.getParameterTypes()[i].getName());
        }
        return s.append(')').append(m.getReturnType().getName()).toString();
    }

    private static void face() {
        due("public and final", FieldCutter.class.getModifiers() == (Modifier.PUBLIC | Modifier.FINAL));
        Set<String> shown = new TreeSet<>();
        Set<String> names = new TreeSet<>();
        for (Method m : FieldCutter.class.getDeclaredMethods()) {
            if (!Modifier.isPrivate(m.getModifiers())) {
                due(m + " public", Modifier.isPublic(m.getModifiers()));
                shown.add(signed(m));
                names.add(m.getName());
            }
        }
        due("the face " + shown, shown.equals(new TreeSet<>(List.of(FACE.split(" ")))));
        for (Class<?> inside : FieldCutter.class.getDeclaredClasses()) {
            for (Method m : inside.getDeclaredMethods()) {
                due(m + " has a name of the face", !names.contains(m.getName()));
            }
        }
        for (Method m : FieldCutter.class.getDeclaredMethods()) {
            due(m + " has a name of the face", Modifier.isPublic(m.getModifiers()) || !names.contains(m.getName()));
        }
        for (Field f : FieldCutter.class.getDeclaredFields()) {
            due(f + " private", f.getName().equals("NONE") || Modifier.isPrivate(f.getModifiers()));
        }
        Constructor<?>[] makers = FieldCutter.class.getDeclaredConstructors();
        due("one constructor", makers.length == 1 && Modifier.isPublic(makers[0].getModifiers()));
    }

    private static void members(Class<?> one) {
        int fields = 0;
        for (Field f : one.getDeclaredFields()) {
            boolean fixed = Modifier.isStatic(f.getModifiers());
            fields += fixed ? 0 : 1;
            due(f + " final", !fixed || Modifier.isFinal(f.getModifiers()));
        }
        due(one + " fields: " + fields, fields <= 20);
        for (Method m : one.getDeclaredMethods()) {
            due(m + " parameters", m.getParameterCount() <= 7);
        }
    }

    private static void source(String text) {
        String code = text.replaceAll("(?s)/\\*.*?\\*/", " ").replaceAll("//[^\n]*", " ");
        String[] words = {"throw", "throws", "try", "catch", "finally", "synchronized", "assert", "import static",
            "hashCode", "toString", "equals", "Exact", "package", "System.out", "Object", "volatile", "instanceof"};
        for (String word : words) {
            due("no " + word, !Pattern.compile("\\b" + word + "\\b|" + word + "\\(").matcher(code).find());
        }
        due("no lambda", !code.contains("->"));
        due("no method reference", !code.contains("::"));
        Matcher imports = Pattern.compile("import ([\\w.]+);").matcher(code);
        while (imports.find()) {
            due(imports.group(), Set.of("java.util.Arrays", "java.util.ArrayList", "java.util.List").contains(imports.group(1)));
        }
        Matcher library = Pattern.compile("\\b(Arrays|Math|Long|Integer|System)\\.(\\w+)").matcher(code);
        Set<String> known = Set.of("Arrays.fill", "Arrays.copyOf", "Arrays.copyOfRange", "Math.max", "Math.min",
                "Math.abs", "Math.floorMod", "Math.floorDiv", "Long.bitCount", "Integer.bitCount", "System.arraycopy");
        while (library.find()) {
            due(library.group(), known.contains(library.group()));
        }
        lengths(text);
    }

    /** Methods stand at four blanks, or at eight inside a class. */
    private static void lengths(String text) {
        String[] lines = text.split("\n");
        for (int i = 0; i < lines.length; i++) {
            Matcher head = Pattern.compile("( {4}| {8})\\w[\\w\\[\\]<> ]*\\(.*\\) \\{").matcher(lines[i]);
            if (head.matches() && !lines[i].contains(" new ")) {
                int end = i;
                while (end < lines.length && !lines[end].equals(head.group(1) + "}")) {
                    end++;
                }
                due("lines of " + lines[i].trim(), end - i <= 60);
            }
            due("line " + (i + 1) + " is short", lines[i].length() <= 120);
        }
    }
}
