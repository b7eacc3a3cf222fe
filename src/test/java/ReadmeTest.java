import java.io.IOException;
import java.lang.reflect.Field;
import java.lang.reflect.Method;
import java.lang.reflect.Modifier;
import java.nio.file.Files;
import java.nio.file.Path;
import java.util.Arrays;
import java.util.List;
import java.util.regex.Matcher;
import java.util.regex.Pattern;
import java.util.stream.Collectors;
import java.util.stream.Stream;

/** README.md says how to use the class and how to run its tests: what it says is so. */
public final class ReadmeTest {
    private static int wrong = 0;
    private static int looked = 0;

    private static void must(boolean good, String what) {
        looked++;
        if (!good) {
            wrong++;
            System.out.println("not so: " + what);
        }
    }

    public static void main(String[] args) throws IOException, ReflectiveOperationException {
        String page = Files.readString(Path.of("README.md"));
        example(page);
        linesOfTexts(page);
        calls(page);
        constants(page);
        tests(page);
        System.out.println(looked + " looked at, " + wrong + " not as due");
        if (wrong != 0) System.exit(1);
    }

    private static void write(NumberFerries x, String text) {
        for (int i = 0; i < text.length(); i++) x.write(text.charAt(i), 1);
    }

    private static void example(String page) throws ReflectiveOperationException {
        Matcher text = Pattern.compile("String text = \"([^\"]*)\";").matcher(page);
        boolean told = text.find();
        must(told, "the example tells a text");
        if (!told) return;
        NumberFerries x = new NumberFerries();
        write(x, text.group(1));
        Matcher calls = Pattern.compile("^x\\.(\\w+)\\(([-\\d, ]*)\\); +// (-?\\d+):", Pattern.MULTILINE).matcher(page);
        int made = 0;
        while (calls.find()) {
            int got = answer(x, calls.group(1), calls.group(2));
            must(got == Integer.parseInt(calls.group(3)), calls.group() + " answered " + got);
            made++;
        }
        must(made >= 6, "the example makes calls and says what they answer");
    }

    private static int answer(NumberFerries x, String name, String given) throws ReflectiveOperationException {
        String[] texts = given.isBlank() ? new String[0] : given.split(", *");
        Object[] numbers = Stream.of(texts).map(Integer::valueOf).toArray();
        Class<?>[] types = new Class<?>[numbers.length];
        Arrays.fill(types, int.class);
        return (int) NumberFerries.class.getMethod(name, types).invoke(x, numbers);
    }

    /** Each line that the page shows is read; letters stand for numbers: all are 1, but T is 0. */
    private static void linesOfTexts(String page) {
        Matcher lines = Pattern.compile("`((?:shore|person|child|beast|stone|hat|wish|unsure|exact|loose|turning)(?: [A-Z])*)`")
            .matcher(page);
        int shown = 0;
        while (lines.find()) {
            NumberFerries x = new NumberFerries();
            write(x, "person 1 0;" + lines.group(1).replace("T", "0").replaceAll("[A-Z]", "1"));
            must(x.fault() == NumberFerries.NONE, lines.group() + " can be read");
            shown++;
        }
        must(shown == 11, "eleven lines are shown, not " + shown);
    }

    private static void calls(String page) {
        for (Method m : NumberFerries.class.getDeclaredMethods()) {
            if (!Modifier.isPublic(m.getModifiers())) continue;
            Matcher shown = Pattern.compile("^\\|.*`" + m.getName() + "\\(([^)]*)\\)`.*\\|", Pattern.MULTILINE).matcher(page);
            boolean named = shown.find();
            must(named, m.getName() + " stands among the calls");
            if (!named) continue;
            int given = shown.group(1).isEmpty() ? 0 : shown.group(1).split(",").length;
            must(given == m.getParameterCount(), m.getName() + " is given " + m.getParameterCount());
        }
    }

    private static void constants(String page) throws IllegalAccessException {
        for (Field f : NumberFerries.class.getFields()) {
            must(page.matches("(?s).*`" + f.getName() + "` \\(" + f.getInt(null) + "\\b.*"),
                f.getName() + " stands there with its number");
        }
    }

    private static void tests(String page) throws IOException {
        List<String> names;
        try (Stream<Path> files = Files.list(Path.of("src/test/java"))) {
            names = files.map(f -> f.getFileName().toString()).filter(f -> f.endsWith("Test.java"))
                .collect(Collectors.toList());
        }
        for (String name : names) {
            String shown = name.startsWith("BoundsOf") ? "BoundsOf*Test.java" : name;
            must(page.contains("`src/test/java/" + shown + "`"), name + " is named");
        }
        must(page.contains("`.ci/run`") && Files.isExecutable(Path.of(".ci/run")), "how they are run is told");
        must(page.contains("`../shared/tests`"), "the shared tests are named");
    }
}
