import java.io.IOException;
import java.lang.reflect.Method;
import java.nio.file.Files;
import java.nio.file.Path;
import java.util.List;
import java.util.regex.Matcher;
import java.util.regex.Pattern;
import java.util.stream.Stream;

/** README.md tells the truth: the calls of its block are made, and each test is named. */
public final class ReadmeTest {
    private static final Path README = Path.of("README.md"), TESTS = Path.of("src/test/java");
    private static final Pattern BLOCK = Pattern.compile("```java\n(.*?)```", Pattern.DOTALL);
    private static final Pattern TYPED = Pattern.compile("for \\(char c : \"([^\"]*)\"\\.toCharArray\\(\\)\\) fair\\.type\\(([01]), c\\);");
    private static final Pattern CALL = Pattern.compile("fair\\.(\\w+)\\(([-\\d, ]*)\\); +// (-?\\d+)(: .*)?");
    private static int wrong;

    private static void fail(String what) {
        wrong++;
        System.out.println(what);
    }

    public static void main(String[] args) throws Exception {
        String page = Files.readString(README);
        Matcher block = BLOCK.matcher(page);
        if (block.find()) {
            int calls = makeCalls(block.group(1));
            if (calls < 30) {
                fail("the block has but " + calls + " calls with an answer");
            }
        } else {
            fail("there is no block of calls");
        }
        everyTestIsNamed(page);
        System.out.println(wrong == 0 ? "the page tells the truth" : wrong + " things on the page are wrong");
        if (wrong != 0) {
            System.exit(1);
        }
    }

    private static int makeCalls(String block) throws Exception {
        SecondChances fair = new SecondChances();
        int calls = 0;
        for (String line : block.split("\n")) {
            Matcher typed = TYPED.matcher(line);
            Matcher call = CALL.matcher(line);
            if (typed.matches()) {
                for (char c : typed.group(1).toCharArray()) {
                    fair.type(Integer.parseInt(typed.group(2)), c);
                }
            } else if (call.matches()) {
                calls++;
                long got = answer(fair, call.group(1), call.group(2));
                if (got != Long.parseLong(call.group(3))) {
                    fail(line.strip() + " answered " + got);
                }
            } else if (!line.isBlank() && !line.startsWith("// ") && !line.equals("SecondChances fair = new SecondChances();")) {
                fail("what is this: " + line);
            }
        }
        return calls;
    }

    private static long answer(SecondChances fair, String name, String list) throws Exception {
        Object[] numbers = Stream.of(list.split(",")).map(String::strip).filter(n -> !n.isEmpty()).map(Integer::valueOf).toArray();
        for (Method m : SecondChances.class.getMethods()) {
            if (m.getName().equals(name) && m.getParameterCount() == numbers.length) {
                return ((Number) m.invoke(fair, numbers)).longValue();
            }
        }
        fail("there is no call " + name + " with " + numbers.length + " numbers");
        return 0;
    }

    private static void everyTestIsNamed(String page) throws IOException {
        try (Stream<Path> files = Files.list(TESTS)) {
            List<String> names = files.map(f -> f.getFileName().toString().replace(".java", "")).sorted().toList();
            for (String name : names) {
                if (!page.contains("| `" + name + "` |")) {
                    fail(name + " is not named");
                }
            }
        }
    }
}
