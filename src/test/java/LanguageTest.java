import java.io.IOException;
import java.lang.reflect.Executable;
import java.lang.reflect.Field;
import java.lang.reflect.Method;
import java.lang.reflect.Modifier;
import java.nio.file.Files;
import java.nio.file.Path;
import java.util.ArrayList;
import java.util.Arrays;
import java.util.List;
import java.util.Set;
import java.util.TreeSet;
import java.util.regex.Matcher;
import java.util.regex.Pattern;

/** The document's public face, and what of ../shared/LANGUAGE.md can be looked at from outside. */
public final class LanguageTest {
    private static final String[] FACE = {
        "int write(long, int)", "int erase()", "int fault()", "int shore()", "int thing(int, int)",
        "int ferry(int, int)", "int as(int, int)", "int right(int, int)", "int cross(int, int)",
        "int doff(int)", "int noon()", "int keep(int)", "int back(int)", "int loads(int, int)",
        "int weighed(int, int)", "int hats(int, int, int)", "int stones(int, int, int)",
        "int sure(int)", "int aboard(int, int, int, int)", "int fewest(int, int, int)",
        "int soonest(int, int)", "int row(int, int)", "int burn()", "int judge()", "int count(int)"};
    private static final Set<String> CONSTANTS = Set.of("NONE", "UNKNOWN", "OUTSIDE", "NOT", "FULL");

    private static int wrong = 0;

    private static void must(boolean good, String what) {
        if (!good) {
            wrong++;
            System.out.println("not so: " + what);
        }
    }

    public static void main(String[] args) throws IOException {
        face();
        List<Class<?>> classes = new ArrayList<>(List.of(NumberFerries.class));
        for (int i = 0; i < classes.size(); i++) {
            classes.addAll(List.of(classes.get(i).getDeclaredClasses()));
        }
        must(classes.size() <= 12, "at most twelve classes");
        for (Class<?> one : classes) {
            if (one != NumberFerries.class) inside(one);
        }
        source(Files.readString(Path.of(args.length > 0 ? args[0] : "src/main/java/NumberFerries.java")));
        System.out.println(wrong == 0 ? "the face and the language are kept" : wrong + " rules are not kept");
        if (wrong != 0) System.exit(1);
    }

    private static void face() {
        Class<?> c = NumberFerries.class;
        must(Modifier.isPublic(c.getModifiers()) && Modifier.isFinal(c.getModifiers()), "public and final");
        must(c.getDeclaredConstructors().length == 1 && c.getConstructors().length == 1
            && c.getConstructors()[0].getParameterCount() == 0, "one public constructor without arguments");
        Set<String> due = new TreeSet<>(Arrays.asList(FACE));
        Set<String> got = new TreeSet<>();
        for (Method m : c.getDeclaredMethods()) {
            if (Modifier.isPrivate(m.getModifiers())) continue;
            String types = Arrays.toString(m.getParameterTypes());
            got.add(m.getReturnType() + " " + m.getName() + "(" + types.substring(1, types.length() - 1) + ")");
            must(Modifier.isPublic(m.getModifiers()) && !Modifier.isStatic(m.getModifiers()), m + " is public");
        }
        must(got.equals(due), "the methods are " + due + ", not " + got);
        for (Field f : c.getDeclaredFields()) {
            boolean open = CONSTANTS.contains(f.getName());
            must(Modifier.isPrivate(f.getModifiers()) != open, f + " is public only if it is of the face");
        }
        fieldsOf(c);
        methodsOf(c);
    }

    private static void inside(Class<?> one) {
        int mods = one.getModifiers();
        must(Modifier.isStatic(mods) && !Modifier.isPublic(mods) && !Modifier.isProtected(mods),
            one + " is static and hidden");
        fieldsOf(one);
        methodsOf(one);
        for (Method m : one.getDeclaredMethods()) {
            for (String call : FACE) {
                must(!call.contains(" " + m.getName() + "("), m + " bears the name of a public one");
            }
        }
    }

    private static void fieldsOf(Class<?> one) {
        int own = 0;
        for (Field f : one.getDeclaredFields()) {
            if (Modifier.isStatic(f.getModifiers())) {
                must(Modifier.isFinal(f.getModifiers()), f + " is final");
            } else {
                own++;
            }
        }
        must(own <= 20, one + " has at most twenty fields");
    }

    private static void methodsOf(Class<?> one) {
        List<Executable> all = new ArrayList<>(List.of(one.getDeclaredMethods()));
        all.addAll(List.of(one.getDeclaredConstructors()));
        for (Executable e : all) must(e.getParameterCount() <= 7, e + " takes at most seven");
    }

    private static void source(String text) {
        must(text.chars().allMatch(c -> c < 128), "plain signs alone");
        String code = Pattern.compile("/\\*.*?\\*/", Pattern.DOTALL).matcher(text).replaceAll(" ");
        code = code.replaceAll("//[^\n]*", " ").replaceAll("\"[^\"\n]*\"", "\"\"").replaceAll("'[^'\n]'", "' '");
        must(!code.contains("package "), "no package line");
        Matcher words = Pattern.compile("[A-Za-z_]+").matcher(code);
        Set<String> barred = Set.of("throw", "throws", "try", "catch", "finally", "synchronized", "assert",
            "System", "Thread", "Object", "HashMap", "Map", "Exception", "double", "float", "native", "volatile");
        while (words.find()) must(!barred.contains(words.group()), "no " + words.group());
        must(!code.contains("->") && !code.contains("::"), "no lambda, no method reference");
        Matcher imports = Pattern.compile("import ([^;]+);").matcher(code);
        while (imports.find()) {
            must(Set.of("java.util.Arrays", "java.util.ArrayList", "java.util.List").contains(imports.group(1)),
                "no import of " + imports.group(1));
        }
        Matcher library = Pattern.compile("\\b(Arrays|Integer|Math|Long)\\.(\\w+)").matcher(code);
        Set<String> allowed = Set.of("Arrays.fill", "Integer.bitCount", "Math.abs");
        while (library.find()) must(allowed.contains(library.group()), library.group() + " is looked up");
        methodLengths(text.split("\n"));
    }

    /** A method opens with an indented line that ends in ') {' and closes at the same indent. */
    private static void methodLengths(String[] lines) {
        for (int i = 0; i < lines.length; i++) {
            if (!lines[i].matches("( {4}| {8})[a-zA-Z].*\\) \\{")) continue;
            String close = lines[i].replaceAll("\\S.*", "") + "}";
            int end = i;
            while (end < lines.length && !lines[end].equals(close)) end++;
            must(end - i <= 60, "line " + (i + 1) + " begins a short method");
        }
    }
}
