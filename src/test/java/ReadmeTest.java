import java.io.IOException;
import java.lang.reflect.InvocationTargetException;
import java.lang.reflect.Method;
import java.nio.file.Files;
import java.nio.file.Path;
import java.util.ArrayList;
import java.util.List;
import java.util.Set;
import java.util.TreeSet;
import java.util.regex.Matcher;
import java.util.regex.Pattern;
import java.util.stream.Collectors;
import java.util.stream.Stream;

/** What README.md says holds: the calls it shows answer what it names, and its words on the tests are those of .ci/run. */
public final class ReadmeTest {
    private static final Pattern LETTERS = Pattern.compile("for \\(char c : \"([^\"]*)\"\\.toCharArray\\(\\)\\) \\{");
    private static final Pattern CALL = Pattern.compile("x\\.(\\w+)\\(([-0-9, ]*)\\); +// (-?[0-9]+)(:.*)?");
    private static int wrong = 0;

    private static final Set<String> shown = new TreeSet<>();
    private static ArmsAlongBeam x = null;
    private static String told = null;

    private static void must(boolean holds, String what) {
        if (!holds) {
            wrong++;
            System.out.println("README.md: " + what);
        }
    }

    private static List<String> code(List<String> lines, String heading) {
        List<String> code = new ArrayList<>();
        boolean under = false;
        for (String line : lines) {
            under = line.startsWith("## ") ? line.equals("## " + heading) : under;
            if (under && line.startsWith("    ")) {
                code.add(line.strip());
            }
        }
        return code;
    }

    /** A line of another form than these fails, so that no answer stands there unlooked at. */
    private static void read(String line) {
        Matcher letters = LETTERS.matcher(line);
        Matcher call = CALL.matcher(line);
        if (line.equals("ArmsAlongBeam x = new ArmsAlongBeam();")) {
            x = new ArmsAlongBeam();
        } else if (x == null) {
            must(false, "no object yet for: " + line);
        } else if (letters.matches()) {
            told = letters.group(1);
        } else if (line.equals("x.letter(c);") && told != null) {
            tell(told);
            told = null;
        } else if (call.matches()) {
            int got = answer(call.group(1), call.group(2));
            must(got == Integer.parseInt(call.group(3)), call.group(1) + " answers " + got + " in: " + line);
        } else {
            must(line.equals("}"), "what is this: " + line);
        }
    }

    private static void tell(String text) {
        shown.add("letter");
        for (int i = 0; i < text.length(); i++) {
            int had = x.count(6);
            must(x.letter(text.charAt(i)) == had + 1, "a letter of " + text);
        }
    }

    private static int answer(String name, String numbers) {
        shown.add(name);
        String[] parts = numbers.isBlank() ? new String[0] : numbers.split(",");
        Class<?>[] types = new Class<?>[parts.length];
        Object[] values = new Object[parts.length];
        for (int i = 0; i < parts.length; i++) {
            types[i] = int.class;
            values[i] = Integer.parseInt(parts[i].strip());
        }
        try {
            return (Integer) ArmsAlongBeam.class.getMethod(name, types).invoke(x, values);
        } catch (NoSuchMethodException | IllegalAccessException | InvocationTargetException e) {
            must(false, "no such call: " + name + "(" + numbers + ")");
            return Integer.MIN_VALUE;
        }
    }

    private static void allShown() {
        for (Method m : ArmsAlongBeam.class.getMethods()) {
            boolean own = m.getDeclaringClass() == ArmsAlongBeam.class;
            must(!own || shown.contains(m.getName()), "it does not show " + m.getName());
        }
    }

    private static void tests(String page, List<String> lines) throws IOException {
        Path run = Path.of(".ci/run");
        must(Files.isExecutable(run), ".ci/run can't be called as it says");
        must(code(lines, "Tests").equals(List.of(".ci/run")), "it tells another call for the tests than .ci/run");
        String script = Files.readString(run);
        String[][] words = {{"src/test/java", "src/test/java/"}, {"../shared/tests", "../shared/tests/"},
            {"src/main/java/ArmsAlongBeam.java", "src/main/java/ArmsAlongBeam.java"}, {"`ok:`", "\"ok: "},
            {"`FAILED:`", "\"FAILED: "}, {"\"N passed, N failed\"", "\"$passed passed, $failed failed\""},
            {"from any directory", "cd \"$(dirname \"$0\")/..\""}, {"`javac`", "javac "}, {"`java`", "java "}};
        for (String[] each : words) {
            must(page.contains(each[0]) && script.contains(each[1]), "not both it and .ci/run have " + each[0]);
        }
        Set<String> listed = new TreeSet<>();
        Matcher items = Pattern.compile("(?m)^- `(\\w+)`:").matcher(page);
        while (items.find()) {
            listed.add(items.group(1) + ".java");
        }
        try (Stream<Path> files = Files.list(Path.of("src/test/java"))) {
            Set<String> there = files.map(file -> file.getFileName().toString()).collect(Collectors.toSet());
            must(listed.equals(there), "it lists the tests " + listed + ", there are " + there);
        }
    }

    public static void main(String[] args) throws IOException {
        List<String> lines = Files.readAllLines(Path.of("README.md"));
        code(lines, "Use").forEach(ReadmeTest::read);
        allShown();
        tests(String.join("\n", lines), lines);
        System.out.println(wrong == 0 ? "readme: all is as due, " + shown.size() + " calls shown" : wrong + " things are not as due");
        if (wrong != 0) {
            System.exit(1);
        }
    }
}
