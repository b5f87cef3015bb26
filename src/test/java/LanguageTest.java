import java.io.IOException;
import java.lang.reflect.Constructor;
import java.lang.reflect.Field;
import java.lang.reflect.Method;
import java.lang.reflect.Modifier;
import java.nio.charset.StandardCharsets;
import java.nio.file.Files;
import java.nio.file.Path;
import java.util.ArrayList;
import java.util.Arrays;
import java.util.List;
import java.util.Set;
import java.util.TreeSet;
import java.util.regex.Matcher;
import java.util.regex.Pattern;

/** The face of the class, and of the rules of LANGUAGE.md those that can be told from its source and its members. */
public final class LanguageTest {
    private static final Path SOURCE = Path.of("src/main/java/BranchBets.java");
    private static final Checks CHECKS = new Checks();

    private static final String[] FACE = {
        "set 2", "oracle 3", "seat 2", "stand 1", "give 2", "lend 3", "branch 2", "oracleOf 2", "counter 2",
        "loanOf 2", "aliases 2", "share 1", "rich 1", "says 2", "stake 2", "odds 1", "gain 3", "doom 3",
        "bestRow 4", "count 1", "undo 0", "type 1", "clearText 0", "fault 1", "play 0"};
    private static final String[] CONSTANTS = {
        "INVALID_ARGUMENT", "NOT_POSSIBLE", "LIMIT_REACHED", "NOT_FOUND"};
    private static final String[] RULED_OUT = {
        "throw", "throws", "try", "catch", "finally", "synchronized", "assert", "import", "package", "volatile",
        "native", "transient", "strictfp", "hashCode", "Object", "Thread", "Runtime", "Random", "Float", "Double",
        "Character", "static\\s*\\{", "->", "::", "\\w+Exact"};
    private static final Set<Class<?>> FIELD_TYPES = Set.of(int.class, long.class, boolean.class, char.class,
            String.class, int[].class, long[].class, char[].class, byte[].class);

    private LanguageTest() {
    }

    public static void main(String[] args) throws IOException {
        face();
        classes();
        String source = Files.readString(SOURCE, StandardCharsets.ISO_8859_1);
        CHECKS.about("source");
        CHECKS.that("a sign is not within 10, 32 to 126", source.chars().allMatch(c -> c == 10 || c >= 32 && c < 127));
        words(withoutTexts(source));
        lengths(source.split("\n"));
        CHECKS.end();
    }

    private static void face() {
        CHECKS.about("face");
        Class<?> type = BranchBets.class;
        CHECKS.due("modifiers", type.getModifiers(), Modifier.PUBLIC | Modifier.FINAL);
        Constructor<?>[] constructors = type.getDeclaredConstructors();
        CHECKS.due("constructors", constructors.length, 1);
        CHECKS.due("constructor, modifiers", constructors[0].getModifiers(), Modifier.PUBLIC);
        CHECKS.due("constructor, parameters", constructors[0].getParameterCount(), 0);
        List<String> methods = new ArrayList<>();
        for (Method each : type.getDeclaredMethods()) {
            if (!Modifier.isPrivate(each.getModifiers())) {
                methods.add(each.getName() + " " + each.getParameterCount());
                CHECKS.due(each.getName() + ", modifiers", each.getModifiers(), Modifier.PUBLIC);
                CHECKS.that(each.getName() + " does not answer an int", each.getReturnType() == int.class);
                CHECKS.that(each.getName() + " takes what is no int",
                        Arrays.stream(each.getParameterTypes()).allMatch(one -> one == int.class));
            }
        }
        CHECKS.that("methods: " + methods, new TreeSet<>(methods).equals(new TreeSet<>(List.of(FACE))));
        List<String> constants = new ArrayList<>();
        for (Field each : type.getDeclaredFields()) {
            if (!Modifier.isPrivate(each.getModifiers())) {
                constants.add(each.getName());
                CHECKS.due(each.getName() + ", modifiers", each.getModifiers(),
                        Modifier.PUBLIC | Modifier.STATIC | Modifier.FINAL);
            }
        }
        CHECKS.that("constants: " + constants, new TreeSet<>(constants).equals(new TreeSet<>(List.of(CONSTANTS))));
    }

    private static void classes() {
        List<Class<?>> all = new ArrayList<>(List.of(BranchBets.class.getDeclaredClasses()));
        CHECKS.about("classes");
        CHECKS.that("there are more than 12", all.size() < 12);
        for (Class<?> each : all) {
            CHECKS.that(each + " is not static", Modifier.isStatic(each.getModifiers()));
            CHECKS.that(each + " is public or protected",
                    (each.getModifiers() & (Modifier.PUBLIC | Modifier.PROTECTED)) == 0);
        }
        all.add(BranchBets.class);
        Set<String> names = new TreeSet<>();
        for (String each : FACE) {
            names.add(each.substring(0, each.indexOf(' ')));
        }
        for (Class<?> each : all) {
            members(each, names);
        }
    }

    private static void members(Class<?> type, Set<String> publicNames) {
        CHECKS.about(type.getName());
        int fields = 0;
        for (Field each : type.getDeclaredFields()) {
            if (Modifier.isStatic(each.getModifiers())) {
                CHECKS.that(each + " is not final", Modifier.isFinal(each.getModifiers()));
                CHECKS.that(each + " is of another type", FIELD_TYPES.contains(each.getType()));
            } else {
                fields++;
            }
        }
        CHECKS.that("it has " + fields + " fields", fields <= 20);
        for (Method each : type.getDeclaredMethods()) {
            CHECKS.that(each + " takes more than 7", each.getParameterCount() <= 7);
            boolean isPublic = Modifier.isPublic(each.getModifiers());
            CHECKS.that(each + " bears the name of a public one", isPublic || !publicNames.contains(each.getName()));
        }
    }

    /** The source without its comments, texts and signs. */
    private static String withoutTexts(String source) {
        return source.replaceAll("(?s)/\\*.*?\\*/", " ").replaceAll("//[^\n]*", " ")
                .replaceAll("\"[^\"\n]*\"", "T").replaceAll("'[^'\n]'", "C");
    }

    private static void words(String code) {
        for (String each : RULED_OUT) {
            String pattern = Character.isLetter(each.charAt(0)) ? "\\b" + each + "\\b" : each;
            CHECKS.that("it has '" + each + "'", !Pattern.compile(pattern).matcher(code).find());
        }
        Matcher library = Pattern.compile("\\b(System|Arrays|String|List)\\.(\\w+)").matcher(code);
        Set<String> allowed = Set.of(
                "System.arraycopy", "Arrays.copyOf", "Arrays.copyOfRange", "Arrays.fill", "List.of");
        while (library.find()) {
            CHECKS.that("it uses " + library.group(), allowed.contains(library.group()));
        }
    }

    private static void lengths(String[] lines) {
        for (int i = 0; i < lines.length; i++) {
            String indent = lines[i].substring(0, lines[i].length() - lines[i].stripLeading().length());
            boolean opens = lines[i].endsWith(") {") && (indent.length() == 4 || indent.length() == 8);
            if (!opens || lines[i].strip().startsWith("if") || lines[i].strip().startsWith("for")) {
                continue;
            }
            int end = i;
            while (end < lines.length && !lines[end].equals(indent + "}")) {
                end++;
            }
            CHECKS.that("line " + (i + 1) + " opens a method of " + (end - i) + " lines", end - i <= 60);
        }
    }
}
