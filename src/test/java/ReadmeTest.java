import java.io.IOException;
import java.lang.reflect.Method;
import java.nio.file.Files;
import java.nio.file.Path;
import java.util.ArrayList;
import java.util.List;
import java.util.Set;
import java.util.TreeSet;
import java.util.regex.Matcher;
import java.util.regex.Pattern;
import java.util.stream.Stream;

/** What README.md shows of calls, answers and tests is true. */
public final class ReadmeTest {
    private static final Pattern CODE = Pattern.compile("(?s)```java\n(.*?)```");
    private static final Pattern CALL = Pattern.compile("t\\.(\\w+)(\\(.*?\\)); +// ([A-Z]+|-?\\d+)(?:: .*)?");
    private static final Pattern LINE_OF_CALL = Pattern.compile("(?m)^\\| `(\\w+)\\((.*?)\\)` \\| (.*?) \\| (.*?) ?\\|$");
    private static final Pattern LINE_OF_CONSTANT = Pattern.compile("(?m)^\\| `([A-Z]+)` \\| (-\\d+) \\|");
    private static final String REFUSAL = "\\b(BAD|NOT|FULL|NONE|NULL|CAST|INDEX|SIZE)\\b";
    private static final String FIRST = "TwoLaws t = new TwoLaws();";

    public static void main(String[] args) throws IOException {
        String readme = Files.readString(Path.of("README.md"));
        runs(readme);
        calls(readme);
        constants(readme);
        tests(readme);
        Due.end();
    }

    private static Set<String> face() {
        Set<String> names = new TreeSet<>();
        for (Method m : TwoLaws.class.getMethods()) {
            if (m.getDeclaringClass() == TwoLaws.class) {
                names.add(m.getName());
            }
        }
        return names;
    }

    /** Every run is made on a new object; every call of the face is shown in one. */
    private static void runs(String readme) {
        Set<String> shown = new TreeSet<>();
        Matcher code = CODE.matcher(readme);
        while (code.find()) {
            String[] lines = code.group(1).split("\n");
            Due.hold("a run begins with a new object", lines[0].equals(FIRST));
            TwoLaws t = new TwoLaws();
            for (int k = 1; k < lines.length; k++) {
                Matcher call = CALL.matcher(lines[k]);
                Due.hold("a call and its answer: " + lines[k], call.matches());
                if (call.matches()) {
                    Script.run("README", t, call.group(1) + call.group(2) + " = " + call.group(3));
                    shown.add(call.group(1));
                }
            }
        }
        Due.hold("every call is shown: " + shown, shown.equals(face()));
    }

    private static List<String> refusals(String text) {
        List<String> found = new ArrayList<>();
        Matcher m = Pattern.compile(REFUSAL).matcher(text);
        while (m.find()) {
            found.add(m.group());
        }
        return found;
    }

    /** A line for each call, with its parameters' names, and what it is refused for in the document's order. */
    private static void calls(String readme) {
        Set<String> told = new TreeSet<>();
        String document = Sentences.document();
        Matcher line = LINE_OF_CALL.matcher(readme);
        while (line.find()) {
            String name = line.group(1);
            told.add(name);
            Matcher promise = Pattern.compile("(?m)^`int " + name + "\\((.*?)\\)`: (.*)$").matcher(document);
            if (!document.isEmpty()) {
                Due.hold("the document promises " + name, promise.find());
                Due.hold(name + "'s parameters", promise.group(1).replaceAll("(int|long) ", "").equals(line.group(2)));
                Due.hold(name + " is refused for " + refusals(promise.group(2)), refusals(promise.group(2)).equals(refusals(line.group(4))));
            }
        }
        Due.hold("a line for every call: " + told, told.equals(face()));
    }

    private static void constants(String readme) {
        Matcher line = LINE_OF_CONSTANT.matcher(readme);
        int told = 0;
        while (line.find()) {
            told++;
            try {
                Due.be(line.group(1), TwoLaws.class.getField(line.group(1)).getInt(null), Integer.parseInt(line.group(2)));
            } catch (ReflectiveOperationException e) {
                Due.hold("there is a constant " + line.group(1), false);
            }
        }
        Due.be("constants told", 8, told);
    }

    /** Every test is named, and what is named is there. */
    private static void tests(String readme) throws IOException {
        Set<String> there = new TreeSet<>();
        try (Stream<Path> files = Files.list(Path.of("src/test/java"))) {
            files.map(f -> f.getFileName().toString()).filter(f -> f.endsWith("Test.java")).forEach(f -> there.add(f.replace(".java", "")));
        }
        Set<String> named = new TreeSet<>();
        Matcher m = Pattern.compile("`(\\w+Test)`").matcher(readme);
        while (m.find()) {
            named.add(m.group(1));
        }
        Due.hold("the tests are " + there + ", named are " + named, there.equals(named));
        Due.hold(".ci/run can be run", Files.isExecutable(Path.of(".ci/run")));
    }
}
