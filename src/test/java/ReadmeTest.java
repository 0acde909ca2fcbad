import java.io.IOException;
import java.lang.reflect.Method;
import java.lang.reflect.Modifier;
import java.nio.charset.StandardCharsets;
import java.nio.file.Files;
import java.nio.file.Path;
import java.util.ArrayList;
import java.util.List;
import java.util.stream.Stream;

/** README.md tells the truth: its example, its calls, its tests; run from the project's folder. */
public final class ReadmeTest {
    private static final Check CHECK = new Check();
    private static final Path TESTS = Path.of("src", "test", "java");

    /** What the example's calls answer, in their order, as its comments say. */
    private static final List<String> ANSWERS = new ArrayList<>();

    public static void main(String[] arguments) throws IOException {
        List<String> readme = Files.readAllLines(Path.of("README.md"), StandardCharsets.UTF_8);
        exampleAnswers(readme);
        callsAreNamed(readme);
        testsAreNamed(readme);
        CHECK.finish();
    }

    /** The example of README.md, call by call: each answer is noted where its comment tells one. */
    private static void playExample() {
        WeftHouse house = new WeftHouse();
        int cartoon = noted(house.cartoon(2));
        house.type('R');
        house.type('B');
        noted(house.row(cartoon));
        noted(house.dye(0, 99, 3, false));
        noted(house.dye(1, 99, 1, true));
        int piece = noted(house.loom(cartoon, 1, false));
        noted(house.weave(piece, 0));
        noted(house.light(piece, 200));
        noted(house.wash(piece));
        int part = noted(house.cut(piece, 1));
        noted(house.match(piece, part));
        noted(house.join(piece, part));
        noted(house.likeness(piece, cartoon));
    }

    private static int noted(int answer) {
        ANSWERS.add(Integer.toString(answer));
        return answer;
    }

    private static void noted(boolean answer) {
        ANSWERS.add(Boolean.toString(answer));
    }

    /** The example's lines without their comments are those of playExample, and the comments begin with its answers. */
    private static void exampleAnswers(List<String> readme) throws IOException {
        playExample();
        List<String> calls = new ArrayList<>();
        int told = 0;
        int start = readme.indexOf("```java");
        CHECK.due("README has an example", start >= 0, true);
        for (int at = start + 1; at < readme.size() && !readme.get(at).equals("```"); at++) {
            String[] parts = readme.get(at).split(" *// ");
            calls.add(parts[0]);
            if (parts.length > 1) {
                String want = told < ANSWERS.size() ? ANSWERS.get(told) : "nothing";
                CHECK.due(parts[0], parts[1].split(":")[0], want);
                told++;
            }
        }
        CHECK.due("the answers told", told, ANSWERS.size());
        CHECK.due("the example's lines", String.join("\n", calls), String.join("\n", playedLines()));
    }

    private static List<String> playedLines() throws IOException {
        List<String> lines = Files.readAllLines(TESTS.resolve("ReadmeTest.java"), StandardCharsets.UTF_8);
        List<String> played = new ArrayList<>();
        int at = lines.indexOf("    private static void playExample() {") + 1;
        while (at < lines.size() && !lines.get(at).equals("    }")) {
            played.add(lines.get(at).strip().replaceAll("noted\\((.*)\\);", "$1;"));
            at++;
        }
        return played;
    }

    /** The table of calls has a line for each method of the face, with as many arguments, and no other. */
    private static void callsAreNamed(List<String> readme) {
        List<String> named = new ArrayList<>();
        for (String line : readme) {
            if (line.matches("\\| `\\w+\\(.*")) {
                String arguments = line.replaceAll("^[^(]*\\(([^)]*)\\).*", "$1");
                int count = arguments.isEmpty() ? 0 : arguments.split(",").length;
                named.add(line.replaceAll("^\\| `(\\w+).*", "$1") + "/" + count);
            }
        }
        int methods = 0;
        for (Method method : WeftHouse.class.getDeclaredMethods()) {
            if (Modifier.isPublic(method.getModifiers())) {
                methods++;
                String due = method.getName() + "/" + method.getParameterCount();
                CHECK.due("README has a line for " + due, named.contains(due), true);
            }
        }
        CHECK.due("the calls that README names", named.size(), methods);
    }

    private static void testsAreNamed(List<String> readme) throws IOException {
        List<String> named = new ArrayList<>();
        for (String line : readme) {
            if (line.matches("\\| [A-Z]\\w*Test[ ,].*")) {
                named.addAll(List.of(line.split("\\|")[1].strip().split(", ")));
            }
        }
        int tests = 0;
        try (Stream<Path> files = Files.list(TESTS)) {
            for (Path file : (Iterable<Path>) files::iterator) {
                String name = file.getFileName().toString();
                if (name.endsWith("Test.java")) {
                    tests++;
                    CHECK.due("README has a line for " + name, named.contains(name.replace(".java", "")), true);
                }
            }
        }
        CHECK.due("the tests that README names", named.size(), tests);
    }
}
