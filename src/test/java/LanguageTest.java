import java.io.IOException;
import java.lang.reflect.Constructor;
import java.lang.reflect.Field;
import java.lang.reflect.Method;
import java.lang.reflect.Modifier;
import java.nio.file.Files;
import java.nio.file.Path;
import java.util.ArrayList;
import java.util.Arrays;
import java.util.HashSet;
import java.util.List;
import java.util.Set;
import java.util.TreeSet;
import java.util.regex.Matcher;
import java.util.regex.Pattern;

/** The public face, and those rules of LANGUAGE.md that a program can look at. */
public final class LanguageTest {
    private static final Path SOURCE = Path.of("src/main/java/WivesQuarrels.java");
    private static final String N = " throws NoSuchElementException";
    private static final String I = " throws IllegalArgumentException";
    private static final String BOTH = " throws NoSuchElementException, IllegalArgumentException";
    private static final String[] FACE = {
        "int feed(5)", "int town(1)" + I, "int fault(0)", "int count(1)" + N, "int person(2)" + N, "int quarrel(3)" + N,
        "int weeks(1)", "int die(1)" + N, "boolean wed(2)" + N, "int settle(2)" + N, "int pick(4)" + N, "int undo(0)",
        "int then(4)" + BOTH, "int over(2)" + N, "int peace(0)", "int later(2)" + BOTH, "int comesInto(2)" + N,
        "int camps(0)", "int between(2)" + N, "int drawers(0)", "int deaths(0)", "int friends(1)" + N,
        "int spared(1)" + N, "int match(1)" + N, "int ready(0)", "int mildest(0)", "int coldest(1)" + I,
        "int triples(0)", "int alone(0)", "int foes(2)" + N, "int word(1)" + N, "int single(0)", "int cuts(0)",
        "int see(4)" + N, "int nerved(1)" + N, "int look(1)" + N, "void forget(0)", "int game(3)" + BOTH,
        "int years(3)" + BOTH, "void image(0)", "boolean restore(0)"};
    private static final String[] BANNED = {
        "->", "::", "catch", "finally", "try", "synchronized", "assert", "Exact(", "static {", "System.out", "Random",
        "String.valueOf", "String.format", ".equals(", "hashCode", "instanceof", "protected", "package "};

    private static int wrong = 0;

    public static void main(String[] args) throws IOException {
        face();
        fieldsAndClasses();
        String source = Files.readString(SOURCE);
        words(source);
        methods(source.split("\n"));
        System.out.println(wrong == 0 ? "the face and the language are as told" : wrong + " are not as told");
        if (wrong != 0) {
            System.exit(1);
        }
    }

    private static void hold(boolean holds, String what) {
        if (!holds) {
            wrong++;
            System.out.println("not as told: " + what);
        }
    }

    private static void face() {
        Set<String> due = new TreeSet<>(Arrays.asList(FACE));
        Set<String> got = new TreeSet<>();
        Set<String> names = new HashSet<>();
        Class<?> c = WivesQuarrels.class;
        for (Method m : c.getDeclaredMethods()) {
            if (Modifier.isPublic(m.getModifiers())) {
                got.add(signature(m));
                names.add(m.getName());
            } else {
                hold(Modifier.isPrivate(m.getModifiers()), "rule 1: " + m);
            }
        }
        hold(got.equals(due), "the face is " + got);
        hold(c.getModifiers() == (Modifier.PUBLIC | Modifier.FINAL), "the class is public and final");
        Constructor<?>[] made = c.getDeclaredConstructors();
        hold(made.length == 1 && made[0].getParameterCount() == 0 && Modifier.isPublic(made[0].getModifiers()),
            "the constructor");
        List<Class<?>> all = new ArrayList<>(List.of(c.getDeclaredClasses()));
        all.add(c);
        for (Class<?> each : all) {
            for (Method m : each.getDeclaredMethods()) {
                boolean hidden = Modifier.isPrivate(m.getModifiers());
                hold(!hidden || !names.contains(m.getName()), "rule 1: a private method is named " + m.getName());
            }
        }
    }

    private static String signature(Method m) {
        StringBuilder b = new StringBuilder(m.getReturnType() + " " + m.getName() + "(" + m.getParameterCount() + ")");
        String join = " throws ";
        for (Class<?> e : m.getExceptionTypes()) {
            b.append(join).append(e.getSimpleName());
            join = ", ";
        }
        for (Class<?> p : m.getParameterTypes()) {
            hold(p == int.class, "only ints go into " + m.getName());
        }
        return b.toString();
    }

    private static void fieldsAndClasses() {
        List<Class<?>> all = new ArrayList<>(List.of(WivesQuarrels.class.getDeclaredClasses()));
        hold(all.size() < 12, "rule 11: " + all.size() + " classes inside");
        for (Class<?> c : all) {
            hold(Modifier.isStatic(c.getModifiers()) && Modifier.isPrivate(c.getModifiers()), "rule 1: " + c);
        }
        all.add(WivesQuarrels.class);
        for (Class<?> c : all) {
            int own = 0;
            for (Field f : c.getDeclaredFields()) {
                boolean fixed = Modifier.isStatic(f.getModifiers());
                own += fixed ? 0 : 1;
                hold(!fixed || Modifier.isFinal(f.getModifiers()), "rule 5: " + f);
                hold(c != WivesQuarrels.class || Modifier.isPrivate(f.getModifiers()) || f.getName().equals("NONE"),
                    "rule 1: " + f);
            }
            hold(own <= 20, "rule 11: fields of " + c);
            for (Method m : c.getDeclaredMethods()) {
                hold(m.getParameterCount() <= 7, "rule 11: " + m);
            }
        }
    }

    private static void words(String source) {
        String code = source.replaceAll("//[^\n]*|/\\*[\\s\\S]*?\\*/", "");
        for (String banned : BANNED) {
            String pattern = (Character.isLetter(banned.charAt(0)) ? "\\b" : "") + Pattern.quote(banned);
            pattern += Character.isLetter(banned.charAt(banned.length() - 1)) ? "\\b" : "";
            hold(!Pattern.compile(pattern).matcher(code).find(), "'" + banned + "' in the source");
        }
        Matcher imports = Pattern.compile("import ([^;]+);").matcher(code);
        while (imports.find()) {
            hold(Set.of("java.util.Arrays", "java.util.NoSuchElementException").contains(imports.group(1)),
                "rule 4: " + imports.group());
        }
        Matcher thrown = Pattern.compile("throw ([^;]+);").matcher(code);
        while (thrown.find()) {
            hold(thrown.group(1).matches("new (NoSuchElement|IllegalArgument)Exception\\(\"[^\"]+\"\\)"),
                "rule 6: " + thrown.group());
        }
        hold(source.chars().allMatch(ch -> ch == '\n' || ch >= ' ' && ch < 127), "only plain signs in the source");
    }

    /** A method begins where a line ends in ") {" behind a type and a name, and ends at a brace as far in. */
    private static void methods(String[] lines) {
        Pattern head = Pattern.compile("^( {4}| {8})(?! )(?!.*\\b(if|for|while|switch)\\b).*\\w\\(.*");
        for (int i = 0; i < lines.length; i++) {
            Matcher m = head.matcher(lines[i]);
            if (!m.matches() || lines[i].endsWith(";")) {
                continue;
            }
            int end = i;
            while (end < lines.length && !lines[end].equals(m.group(1) + "}")) {
                end++;
            }
            hold(end - i < 60, "rule 11: the method at line " + (i + 1) + " has " + (end - i + 1) + " lines");
        }
        for (int i = 0; i < lines.length; i++) {
            hold(lines[i].length() <= 120, "line " + (i + 1) + " is long");
        }
    }
}
