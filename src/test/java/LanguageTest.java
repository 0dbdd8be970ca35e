import java.io.IOException;
import java.lang.reflect.Constructor;
import java.lang.reflect.Field;
import java.lang.reflect.Method;
import java.lang.reflect.Modifier;
import java.nio.file.Files;
import java.nio.file.Path;
import java.util.ArrayList;
import java.util.HashMap;
import java.util.List;
import java.util.Map;
import java.util.Set;
import java.util.TreeSet;
import java.util.regex.Matcher;
import java.util.regex.Pattern;

/** The face of the class, and those rules of LANGUAGE.md that can be read off its text. */
public final class LanguageTest {
    private static final Due DUE = new Due("LanguageTest");
    private static final String[] FACE = {"letter(int)", "blank()", "fault()", "barn()", "cart(int,int)", "as(int,int)",
        "bay(int,int)", "cut(int,int)", "day()", "turn(int)", "rain(int,int)", "lasts(int)", "plan(int,int)", "share(int)",
        "burnt(int)", "see(int,int,int)", "forget()", "winters(int,int,int)", "image()", "restore()", "count(int)",
        "digest()"};
    private static final String[] BANNED = {"throw", "throws", "try", "catch", "finally", "synchronized", "assert",
        "import", "package", "->", "::", "hashCode", "toString", "Object", "Random", "Thread", "System\\.(?!arraycopy)"};

    private static final Set<Class<?>> CONSTANTS = Set.of(int.class, long.class, boolean.class, char.class, String.class,
        int[].class, long[].class, char[].class, byte[].class);
    private static final Set<String> LIBRARY = Set.of("Math.min", "Math.max", "System.arraycopy");

    public static void main(String[] args) throws IOException {
        face();
        text(Files.readString(Path.of("src/main/java/BarnSummers.java")));
        DUE.end();
    }

    private static void face() {
        Class<?> c = BarnSummers.class;
        DUE.is("the class's modifiers", c.getModifiers(), Modifier.PUBLIC | Modifier.FINAL);
        Set<String> open = new TreeSet<>();
        Set<String> hidden = new TreeSet<>();
        for (Method m : c.getDeclaredMethods()) {
            List<String> types = new ArrayList<>();
            for (Class<?> type : m.getParameterTypes()) {
                types.add(type.getName());
            }
            if (Modifier.isPublic(m.getModifiers())) {
                open.add(m.getName() + "(" + String.join(",", types) + ")");
                Class<?> answer = m.getName().equals("digest") ? long.class : int.class;
                DUE.holds(m.getName() + " answers " + answer, m.getReturnType() == answer);
                DUE.is(m.getName() + "'s modifiers", m.getModifiers(), Modifier.PUBLIC);
            } else {
                hidden.add(m.getName() + "(");
                DUE.holds(m.getName() + " is private", Modifier.isPrivate(m.getModifiers()));
            }
        }
        DUE.holds("the public methods are the document's: " + open, open.equals(new TreeSet<>(List.of(FACE))));
        for (String method : FACE) {
            DUE.holds("no private " + method, !hidden.contains(method.substring(0, method.indexOf('(') + 1)));
        }
        Constructor<?>[] makers = c.getDeclaredConstructors();
        DUE.holds("one public constructor", makers.length == 1 && Modifier.isPublic(makers[0].getModifiers()));
        for (Field f : c.getDeclaredFields()) {
            DUE.holds(f.getName() + " is private", Modifier.isPrivate(f.getModifiers())
                || Set.of("NONE", "UNKNOWN", "OUTSIDE", "STATE", "FULL").contains(f.getName()));
        }
        DUE.holds("at most twelve classes", c.getDeclaredClasses().length < 12);
        staticFields(c);
        for (Class<?> inside : c.getDeclaredClasses()) {
            inside(inside, open);
        }
    }

    private static void inside(Class<?> inside, Set<String> open) {
        DUE.holds(inside + " is static", Modifier.isStatic(inside.getModifiers()));
        DUE.holds(inside + " is not public", !Modifier.isPublic(inside.getModifiers()));
        DUE.holds(inside + " has few fields", inside.getDeclaredFields().length <= 20);
        staticFields(inside);
        for (Method m : inside.getDeclaredMethods()) {
            DUE.holds(inside + "'s " + m.getName() + " is no call of the face",
                open.stream().noneMatch(call -> call.startsWith(m.getName() + "(")));
        }
    }

    private static void staticFields(Class<?> c) {
        for (Field f : c.getDeclaredFields()) {
            if (Modifier.isStatic(f.getModifiers())) {
                DUE.holds(f + " is final", Modifier.isFinal(f.getModifiers()));
                DUE.holds(f + " is a number, a text or a row", CONSTANTS.contains(f.getType()));
            }
        }
    }

    private static void text(String source) {
        String code = source.replaceAll("(?s)/\\*.*?\\*/", "").replaceAll("//[^\n]*", "");
        for (String word : BANNED) {
            String found = word.matches("\\w+") ? "\\b" + word + "\\b" : word;
            DUE.holds("without " + word, !Pattern.compile(found).matcher(code).find());
        }
        for (int i = 0; i < source.length(); i++) {
            DUE.holds("a plain sign at " + i, source.charAt(i) < 127);
        }
        library(code);
        methods(code);
    }

    /** Of the library's functions only those are used that LANGUAGE.md lists. */
    private static void library(String code) {
        Set<String> own = new TreeSet<>();
        for (Class<?> inside : BarnSummers.class.getDeclaredClasses()) {
            own.add(inside.getSimpleName());
        }
        Matcher m = Pattern.compile("\\b([A-Z][a-z]\\w*)\\.(\\w+)").matcher(code);
        while (m.find()) {
            DUE.holds(m.group() + " is ours, or listed", own.contains(m.group(1)) || LIBRARY.contains(m.group()));
        }
    }

    /** Methods are short, take few parameters, and stand under one another at most eight deep. */
    private static void methods(String code) {
        Map<String, String> bodies = new HashMap<>();
        Matcher m = Pattern.compile("(?m)^ {4,8}(?:(?:public|private|static) )*(?:int|long|boolean|void) (\\w+)\\(([^)]*)\\) \\{$")
            .matcher(code);
        while (m.find()) {
            String indent = code.substring(m.start(), m.end()).replaceAll("\\S.*", "");
            int end = code.indexOf("\n" + indent + "}", m.end());
            String body = code.substring(m.end(), end);
            DUE.holds(m.group(1) + " is short", body.split("\n").length <= 60);
            DUE.holds(m.group(1) + " takes few", m.group(2).split(",").length <= 7);
            bodies.merge(m.group(1), body, String::concat);
        }
        DUE.holds("methods were found", bodies.size() > 60);
        for (String name : bodies.keySet()) {
            DUE.holds(name + " is at most eight deep", depth(bodies, name, 1) <= 8);
        }
    }

    private static int depth(Map<String, String> bodies, String name, int above) {
        int deepest = above;
        Matcher m = Pattern.compile("(\\w+)\\(").matcher(bodies.get(name));
        while (above < 20 && m.find()) {
            if (bodies.containsKey(m.group(1))) {
                deepest = Math.max(deepest, depth(bodies, m.group(1), above + 1));
            }
        }
        return deepest;
    }
}
