import java.io.IOException;
import java.lang.reflect.Constructor;
import java.lang.reflect.Field;
import java.lang.reflect.Method;
import java.lang.reflect.Modifier;
import java.nio.file.Files;
import java.nio.file.Path;
import java.util.Arrays;
import java.util.Set;
import java.util.TreeSet;
import java.util.regex.Matcher;
import java.util.regex.Pattern;

/** What of ../shared/LANGUAGE.md a machine can look at: the face, the classes, forbidden words. */
public final class LanguageRulesTest {
    private static final Path SOURCE = Path.of("src/main/java/ToldMeThat.java");
    private static final String FACE = "int story(int,int); int hearer(int,int); int of(int,int);"
        + " int at(int,int); int good(int,int); int had(int,int,int); int row(int,int,int);"
        + " int feed(int); int house(); int told(int); int pass(int); int tell(int,int);"
        + " int laugh(int,int); int would(int,int,int); int best(int,int); int fresh(int);"
        + " int again(int,int); int evening(int,int,int); int coffee(int,int);"
        + " int keep(int,int,int,int); int suppers(int,int,int,int); int seats(int,int);"
        + " int spared(int,int); int see(int,int); int guess(int); long odds(int,int);"
        + " long mean(int,int); int book(int); int looked(); int judge(int,int); int image();"
        + " int undo(); int act(int,int,int); int trace(int); int taken(int,int); int count(int);"
        + " int tape(int,int,int); int item(int,int,long); long read(int,int);"
        + " int shift(int,int,int,int,int)";
    private static final Set<Class<?>> CONSTANTS = Set.of(int.class, long.class, boolean.class,
        char.class, String.class, int[].class, long[].class, char[].class, byte[].class);
    private static final String[] FORBIDDEN = {"throw", "try", "catch", "synchronized", "assert",
        "import", "package", "native", "volatile", "transient", "->", "::"};

    public static void main(String[] args) throws IOException {
        face();
        insides();
        words();
        Check.end("LanguageRulesTest");
    }

    private static String told(Method m) {
        StringBuilder s = new StringBuilder(m.getReturnType().getName() + " " + m.getName() + "(");
        for (Class<?> c : m.getParameterTypes()) {
            s.append(s.charAt(s.length() - 1) == '(' ? "" : ",").append(c.getName());
        }
        return s.append(")").toString();
    }

    private static void face() {
        Set<String> shown = new TreeSet<>();
        Set<String> names = new TreeSet<>();
        for (Method m : ToldMeThat.class.getDeclaredMethods()) {
            if (!Modifier.isPrivate(m.getModifiers())) {
                Check.due("public: " + m, Modifier.isPublic(m.getModifiers()) ? 1 : 0, 1);
                shown.add(told(m));
                names.add(m.getName());
            }
        }
        Check.due("the face " + shown,
            shown.equals(new TreeSet<>(Arrays.asList(FACE.split("; ")))) ? 1 : 0, 1);
        for (Class<?> c : allClasses()) {
            for (Method m : c.getDeclaredMethods()) {
                boolean shownName = names.contains(m.getName());
                boolean isFace = c == ToldMeThat.class && Modifier.isPublic(m.getModifiers());
                Check.due("a face's name: " + m, shownName && !isFace ? 1 : 0, 0);
            }
        }
        Constructor<?>[] constructors = ToldMeThat.class.getDeclaredConstructors();
        Check.due("constructors", constructors.length, 1);
        Check.due("its parameters", constructors[0].getParameterCount(), 0);
        int constants = 0;
        for (Field f : ToldMeThat.class.getDeclaredFields()) {
            if (!Modifier.isPrivate(f.getModifiers())) {
                constants++;
            }
        }
        Check.due("constants", constants, 5);
    }

    private static Class<?>[] allClasses() {
        Class<?>[] inner = ToldMeThat.class.getDeclaredClasses();
        Class<?>[] all = Arrays.copyOf(inner, inner.length + 1);
        all[inner.length] = ToldMeThat.class;
        return all;
    }

    private static void insides() {
        Check.due("twelve classes at most", allClasses().length <= 12 ? 1 : 0, 1);
        for (Class<?> c : allClasses()) {
            int modifiers = c.getModifiers();
            if (c != ToldMeThat.class) {
                Check.due("static: " + c, Modifier.isStatic(modifiers) ? 1 : 0, 1);
                Check.due("hidden: " + c,
                    Modifier.isPublic(modifiers) || Modifier.isProtected(modifiers) ? 1 : 0, 0);
            }
            int fields = 0;
            for (Field f : c.getDeclaredFields()) {
                boolean isStatic = Modifier.isStatic(f.getModifiers());
                Check.due("final: " + f,
                    isStatic && !Modifier.isFinal(f.getModifiers()) ? 1 : 0, 0);
                Check.due("a constant's type: " + f,
                    isStatic && !CONSTANTS.contains(f.getType()) ? 1 : 0, 0);
                fields += isStatic ? 0 : 1;
            }
            Check.due("twenty fields at most: " + c, fields <= 20 ? 1 : 0, 1);
            for (Method m : c.getDeclaredMethods()) {
                Check.due("seven parameters at most: " + m, m.getParameterCount() <= 7 ? 1 : 0, 1);
            }
        }
    }

    private static void words() throws IOException {
        String source = Files.readString(SOURCE);
        String code = source.replaceAll("(?s)/\\*.*?\\*/", " ").replaceAll("//[^\n]*", " ");
        for (String word : FORBIDDEN) {
            String bounded = Character.isLetter(word.charAt(0)) ? "\\b" + word + "\\b" : word;
            Matcher found = Pattern.compile(bounded).matcher(code);
            Check.due("holds " + word, found.find() ? 1 : 0, 0);
        }
        Check.due("joins texts by +", Pattern.compile("\"\\s*\\+|\\+\\s*\"").matcher(code).find()
            ? 1 : 0, 0);
        Check.due("signs of 1 to 127", source.chars().allMatch(c -> c >= 1 && c <= 127) ? 1 : 0, 1);
        longestMethod(code);
    }

    private static void longestMethod(String code) {
        int began = 0;
        int line = 0;
        int longest = 0;
        for (String text : code.split("\n")) {
            line++;
            if (text.matches("( {4}| {8})(public|private|static|int|boolean|void|long|[A-Z]).*\\{")
                && text.contains("(")) {
                began = line;
            }
            if (text.matches("( {4}| {8})\\}") && began > 0) {
                longest = Math.max(longest, line - began + 1);
                began = 0;
            }
        }
        Check.due("sixty lines at most, not " + longest, longest > 3 && longest <= 60 ? 1 : 0, 1);
    }
}
