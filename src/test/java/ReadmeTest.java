import java.io.IOException;
import java.lang.reflect.Field;
import java.lang.reflect.Method;
import java.lang.reflect.Modifier;
import java.nio.file.DirectoryStream;
import java.nio.file.Files;
import java.nio.file.Path;
import java.util.Set;
import java.util.TreeSet;
import java.util.regex.Matcher;
import java.util.regex.Pattern;

/** README.md: its example and its table of kinds answer as told, and no call, constant or test is left out. */
public final class ReadmeTest {
    private static final Due DUE = new Due("ReadmeTest");
    private static final Pattern BARN = Pattern.compile("for \\(char c : \"([^\"]+)\"\\.toCharArray\\(\\)\\)");
    private static final Pattern ANSWER = Pattern.compile("(?m)^x\\.(\\w+)\\(([-\\d, ]*)\\); +// (-?\\d+|[A-Z]+): ");
    private static final Pattern KIND = Pattern.compile("(?m)^\\| `(\\w)` +\\| (\\d) [A-Z]+ +\\| ([^|]+?) +\\| ([^|]+?) +\\|$");

    private ReadmeTest() {
    }

    public static void main(String[] args) throws IOException, ReflectiveOperationException {
        String page = Files.readString(Path.of("README.md"));
        example(page.substring(page.indexOf("```java"), page.indexOf("```\n", page.indexOf("```java") + 3)));
        kinds(page);
        calls(page);
        constants(page);
        tests(page);
        DUE.end();
    }

    private static void example(String code) throws ReflectiveOperationException {
        Matcher barn = BARN.matcher(code);
        DUE.holds("the example has a barn", barn.find());
        BarnSummers x = new BarnSummers();
        Barns.write(x, barn.group(1));
        int told = 0;
        Matcher m = ANSWER.matcher(code);
        while (m.find()) {
            told++;
            DUE.is(m.group(), call(x, m.group(1), m.group(2)), number(m.group(3)));
        }
        DUE.is("each line of the example that calls tells an answer", told, code.split("\nx\\.").length - 1);
        DUE.holds("the example has answers", told > 0);
    }

    private static long call(BarnSummers x, String name, String list) throws ReflectiveOperationException {
        String[] texts = list.isEmpty() ? new String[0] : list.split(", ");
        Class<?>[] types = new Class<?>[texts.length];
        Object[] numbers = new Object[texts.length];
        for (int i = 0; i < texts.length; i++) {
            types[i] = int.class;
            numbers[i] = Integer.valueOf(texts[i]);
        }
        return ((Number) BarnSummers.class.getMethod(name, types).invoke(x, numbers)).longValue();
    }

    private static long number(String text) throws ReflectiveOperationException {
        return text.matches("-?\\d+") ? Long.parseLong(text) : BarnSummers.class.getField(text).getInt(null);
    }

    /** What the table says of each KIND, by a cart that is light by 9 and wet by 7. */
    private static void kinds(String page) {
        Matcher m = KIND.matcher(page);
        int rows = 0;
        while (m.find()) {
            rows++;
            BarnSummers x = Barns.of(m.group(1) + "97;s10");
            DUE.is("the kind of " + m.group(1), x.cart(0, 0), Integer.parseInt(m.group(2)));
            for (int n = 1; n <= 3; n++) {
                DUE.is(m.group(1) + " gives by a slice of " + n, x.cart(0, 9 + n), worth(m.group(3), n));
            }
            DUE.is(m.group(1) + " is warmed by", x.cart(0, 6), worth(m.group(4), 7));
        }
        DUE.is("kinds in the table", rows, 5);
    }

    /** Of "2n + 1", "d / 2 / 2" and the like, with a number for the letter. */
    private static int worth(String text, int letter) {
        int worth = 0;
        String sign = "+";
        for (String word : text.split(" ")) {
            if (word.matches("[+/]")) {
                sign = word;
                continue;
            }
            int times = word.matches("\\d+[nd]") ? Integer.parseInt(word.substring(0, word.length() - 1)) : 1;
            int value = word.matches("\\d+") ? Integer.parseInt(word) : times * letter;
            worth = sign.equals("+") ? worth + value : worth / value;
        }
        return worth;
    }

    private static void calls(String page) {
        Set<String> told = found(page, "(?m)^\\| `(\\w+)\\([a-z, ]*\\)` \\|");
        Set<String> face = new TreeSet<>();
        for (Method m : BarnSummers.class.getDeclaredMethods()) {
            if (Modifier.isPublic(m.getModifiers())) {
                face.add(m.getName());
            }
        }
        DUE.holds("the table has the calls " + face + ", and has " + told, told.equals(face));
    }

    private static void constants(String page) throws ReflectiveOperationException {
        for (Field f : BarnSummers.class.getFields()) {
            String named = "`" + f.getName() + "`(?:, | \\| )" + f.getInt(null) + "\\b";
            DUE.holds("the page says that " + f.getName() + " is " + f.getInt(null), Pattern.compile(named).matcher(page).find());
        }
    }

    private static void tests(String page) throws IOException {
        Set<String> files = new TreeSet<>();
        try (DirectoryStream<Path> tests = Files.newDirectoryStream(Path.of("src/test/java"), "*.java")) {
            for (Path test : tests) {
                files.add(test.getFileName().toString().replace(".java", ""));
            }
        }
        Set<String> told = found(page.substring(page.indexOf("\n## Tests")), "`(\\w+Test)`");
        DUE.holds("the page has the tests " + files + ", and has " + told, told.equals(files));
    }

    private static Set<String> found(String page, String pattern) {
        Set<String> all = new TreeSet<>();
        Matcher m = Pattern.compile(pattern).matcher(page);
        while (m.find()) {
            all.add(m.group(1));
        }
        return all;
    }
}
