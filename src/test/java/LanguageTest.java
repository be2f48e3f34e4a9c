import java.lang.reflect.Constructor;
import java.lang.reflect.Field;
import java.lang.reflect.Method;
import java.lang.reflect.Modifier;
import java.nio.file.Files;
import java.nio.file.Path;
import java.util.ArrayList;
import java.util.Arrays;
import java.util.List;
import java.util.Set;
import java.util.TreeSet;
import java.util.regex.Matcher;
import java.util.regex.Pattern;

/** The rules of LANGUAGE.md as far as the class file and the text of the program show them. */
public final class LanguageTest {
    private static int wrong = 0;

    private static final String[] FACE = {
        "boolean day(int)", "int feed(int,int,int,int,int)", "int blank(int)", "int deed(int,int)", "int law(int)",
        "int left(int,int,int)", "int may(int,int,int,int)", "int strike(int,int,int,int)", "int back(int)",
        "int book(int,int)", "long ways(int,int)", "int cheapest(int,int,int,int)", "int done(int,int,int)",
        "int strokes(int,int,int)", "long even(int,int,int)", "int hidden(int,int)", "int shortest(int,int)",
        "long shortestMany(int)", "int bound(int)", "int forged(int)", "long spare(int,int)", "int dayEnd(int,int)",
        "int worth(int,int,int)", "int family(int,int,int,int)", "int chain(int,int)", "boolean seed(int)",
        "int draw(int,int)", "int check(int,int)", "int count(int)"};

    private static void must(boolean holds, String what) {
        if (!holds) {
            wrong++;
            System.out.println("not so: " + what);
        }
    }

    private static String header(Method m) {
        List<String> types = new ArrayList<>();
        for (Class<?> type : m.getParameterTypes()) types.add(type.getName());
        return m.getReturnType().getName() + " " + m.getName() + "(" + String.join(",", types) + ")";
    }

    private static void face() {
        Class<?> c = StrikeOut.class;
        must(c.getModifiers() == (Modifier.PUBLIC | Modifier.FINAL), "public and final");
        Set<String> open = new TreeSet<>();
        for (Method m : c.getDeclaredMethods()) {
            if (Modifier.isPublic(m.getModifiers())) open.add(header(m));
            else must(Modifier.isPrivate(m.getModifiers()), "private: " + m);
            must(!m.isSynthetic(), "written: " + m);
        }
        must(open.equals(new TreeSet<>(Arrays.asList(FACE))), "the face is the document's: " + open);
        for (Constructor<?> made : c.getDeclaredConstructors())
            must(Modifier.isPublic(made.getModifiers()) && made.getParameterCount() == 0, "one constructor: " + made);
        for (Field f : c.getDeclaredFields())
            must(Modifier.isPublic(f.getModifiers()) ? f.getName().equals("NONE") : Modifier.isPrivate(f.getModifiers()), "face: " + f);
    }

    private static void classes() {
        Set<String> names = new TreeSet<>();
        for (String header : FACE) names.add(header.replaceAll(".* |\\(.*", ""));
        List<Class<?>> all = new ArrayList<>(Arrays.asList(StrikeOut.class.getDeclaredClasses()));
        must(all.size() + 1 <= 12, "at most twelve classes");
        for (Class<?> inside : all) {
            int modifiers = inside.getModifiers();
            must(Modifier.isStatic(modifiers) && !Modifier.isPublic(modifiers) && !Modifier.isProtected(modifiers), "static: " + inside);
            for (Method m : inside.getDeclaredMethods()) must(!names.contains(m.getName()), "no name of the face: " + m);
        }
        all.add(StrikeOut.class);
        for (Class<?> each : all) {
            int own = 0;
            for (Field f : each.getDeclaredFields()) {
                if (Modifier.isStatic(f.getModifiers())) must(Modifier.isFinal(f.getModifiers()), "final: " + f);
                else own++;
            }
            must(own <= 20, "at most twenty fields: " + each);
            for (Method m : each.getDeclaredMethods()) {
                must(m.getParameterCount() <= 7, "at most seven parameters: " + m);
                must(!Modifier.isPrivate(m.getModifiers()) || !names.contains(m.getName()), "no name of the face: " + m);
            }
        }
    }

    private static void text() throws Exception {
        String source = Files.readString(Path.of("src/main/java/StrikeOut.java"));
        String code = source.replaceAll("(?s)/\\*.*?\\*/", "").replaceAll("//[^\n]*", "")
            .replaceAll("\"(\\\\.|[^\"\\\\\n])*\"", "\"\"").replaceAll("'(\\\\.|[^'\\\\])'", "' '");
        for (String word : new String[] {"throw", "throws", "try", "catch", "finally", "synchronized", "assert", "package", "var",
                "volatile", "transient", "native", "new Object", "System.out", "equals", "hashCode", "toString"})
            must(!Pattern.compile("\\b" + Pattern.quote(word) + "\\b").matcher(code).find(), "without the word " + word);
        must(!code.contains("->") && !code.contains("::") && !code.contains("@"), "without lambdas, references and notes");
        Matcher imported = Pattern.compile("import ([^;]*);").matcher(code);
        while (imported.find()) must(Set.of("java.util.Arrays", "java.util.ArrayList", "java.util.List").contains(imported.group(1)), imported.group());
        for (char sign : source.toCharArray()) must(sign < 128, "plain signs: " + (int) sign);
        String[] lines = code.split("\n");
        int from = 0;
        for (int k = 0; k < lines.length; k++) {
            must(lines[k].length() <= 130, "short lines: " + lines[k]);
            if (lines[k].matches("( {4}| {8})[A-Za-z].*\\) \\{")) from = k;
            if (lines[k].matches("( {4}| {8})\\}")) must(k - from <= 60, "short methods: " + lines[from]);
        }
    }

    public static void main(String[] args) throws Exception {
        face();
        classes();
        text();
        System.out.println(wrong == 0 ? "the rules are kept" : wrong + " rules are broken");
        if (wrong != 0) System.exit(1);
    }
}
