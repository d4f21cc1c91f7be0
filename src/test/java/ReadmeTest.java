import java.io.IOException;
import java.lang.reflect.Method;
import java.lang.reflect.Modifier;
import java.nio.charset.StandardCharsets;
import java.nio.file.Files;
import java.nio.file.Path;
import java.util.HashMap;
import java.util.Map;
import java.util.regex.Matcher;
import java.util.regex.Pattern;

// README.md tells no answer that the class does not give, and no call stays unnamed.
public final class ReadmeTest extends Checks {
    private static final Pattern ANSWER = Pattern.compile("(?:int|long) (\\w+) = .*; +// (-?\\d+): .*");

    public static void main(String[] args) throws IOException {
        String readme = Files.readString(Path.of("README.md"), StandardCharsets.UTF_8);
        String here = Files.readString(Path.of("src/test/java/ReadmeTest.java"), StandardCharsets.UTF_8);
        exampleIsTheOneHere(readme, here);
        answers(readme);
        calls(readme);
        end("README.md holds");
    }

    private static String[] example(String readme) {
        String behind = readme.substring(readme.indexOf("```java\n") + 8);
        return behind.substring(0, behind.indexOf("```")).split("\n");
    }

    private static String withoutComment(String line) {
        return line.replaceAll("//.*", "").trim();
    }

    // In the same order, so that the values of run() are those of the example.
    private static void exampleIsTheOneHere(String readme, String here) {
        about("the example");
        String[] lines = example(readme);
        due("more than a few lines", lines.length > 10 ? 1 : 0, 1);
        int from = here.indexOf("Map<String, Long> run()");
        for (String line : lines) {
            int found = here.indexOf(withoutComment(line), from);
            due("run() has: " + line, found >= 0 ? 1 : 0, 1);
            from = Math.max(from, found + 1);
        }
    }

    private static void answers(String readme) {
        about("the example");
        Map<String, Long> values = run();
        int told = 0;
        for (String line : example(readme)) {
            Matcher answer = ANSWER.matcher(line.trim());
            if (answer.matches()) {
                told++;
                due(line.trim(), values.getOrDefault(answer.group(1), Long.MIN_VALUE), Long.parseLong(answer.group(2)));
            }
        }
        due("answers told", told, values.size());
    }

    private static Map<String, Long> run() {
        MiddleQueue queue = new MiddleQueue();
        for (char c : "ap3;am4;bp2".toCharArray()) {
            queue.type(0, c);
        }
        for (char c : "fbt".toCharArray()) {
            queue.type(1, c);
        }
        int events = queue.event(0, 2, 1);
        int middle = queue.stands(1, 1);
        int state = queue.at(2, 1, 0);
        int left = queue.at(2, 1, 2);
        int served = queue.done(0, 0);
        int never = queue.done(1, 0);
        long above = queue.chance(4, 1, 0);
        long below = queue.chance(4, 1, 1);
        int nobody = queue.person(3, 0);
        int lost = queue.lose(0);
        int finding = queue.count(8);
        Map<String, Long> values = new HashMap<>();
        values.put("events", (long) events);
        values.put("middle", (long) middle);
        values.put("state", (long) state);
        values.put("left", (long) left);
        values.put("served", (long) served);
        values.put("never", (long) never);
        values.put("above", above);
        values.put("below", below);
        values.put("nobody", (long) nobody);
        values.put("lost", (long) lost);
        values.put("finding", (long) finding);
        return values;
    }

    private static void calls(String readme) {
        about("the table of calls");
        for (Method method : MiddleQueue.class.getMethods()) {
            if (method.getDeclaringClass() == MiddleQueue.class && !Modifier.isStatic(method.getModifiers())) {
                due(method.getName() + " is named", readme.contains("`" + method.getName() + "`") ? 1 : 0, 1);
            }
        }
    }
}
