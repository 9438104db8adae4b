import java.io.IOException;
import java.lang.reflect.Method;
import java.lang.reflect.Modifier;
import java.nio.file.Files;
import java.nio.file.Path;
import java.util.ArrayList;
import java.util.List;
import java.util.regex.Matcher;
import java.util.regex.Pattern;

/** README.md: its example answers as it says, and it has a row for each call of the face. */
public final class ReadmeTest {
    private static final Path README = Path.of("README.md");
    private static final Pattern ROW = Pattern.compile("(?m)^\\| `(\\w+)\\(([^)]*)\\)` \\|.*\\|.*\\|$");

    public static void main(String[] args) throws IOException {
        example();
        rows(Files.readString(README));
        Check.end("ReadmeTest");
    }

    private static void example() {
        ToldMeThat x = new ToldMeThat();
        int joke = x.story(10, 3);
        int aunt = x.hearer(1, 0);
        Check.due("the story", joke, 0);
        Check.due("the hearer", aunt, 0);
        Check.due("told", x.tell(joke, 1 << aunt), 10);
        Check.due("known", x.laugh(aunt, joke), 0);
        Check.due("20 days", x.pass(20), 20);
        Check.due("forgotten", x.laugh(aunt, joke), 10);
        for (char sign : "fun 3 k=1&g>9;face 7".toCharArray()) {
            x.feed(sign);
        }
        Check.due("the house", x.house(), 0);
        Check.due("GOOD and MOOD", x.laugh(aunt, joke), 13);
        Check.due("refused", x.laugh(1, joke), -10001);
    }

    private static void rows(String readme) {
        List<String> told = new ArrayList<>();
        Matcher row = ROW.matcher(readme);
        while (row.find()) {
            int parameters = row.group(2).isEmpty() ? 0 : row.group(2).split(", ").length;
            told.add(row.group(1) + " " + parameters);
        }
        int calls = 0;
        for (Method m : ToldMeThat.class.getDeclaredMethods()) {
            if (Modifier.isPublic(m.getModifiers())) {
                calls++;
                String call = m.getName() + " " + m.getParameterCount();
                Check.due("rows of " + call, told.indexOf(call) >= 0
                    && told.indexOf(call) == told.lastIndexOf(call) ? 1 : 0, 1);
            }
        }
        Check.due("rows", told.size(), calls);
    }
}
