import java.lang.reflect.Field;
import java.lang.reflect.Method;
import java.lang.reflect.Modifier;
import java.nio.charset.StandardCharsets;
import java.nio.file.Files;
import java.nio.file.Path;
import java.util.ArrayList;
import java.util.Arrays;
import java.util.List;
import java.util.TreeMap;
import java.util.TreeSet;
import java.util.regex.Matcher;
import java.util.regex.Pattern;

// Those rules of LANGUAGE.md that can be looked up in the class and in its source.
public final class LanguageTest {
    private static final String[] FACE = {
        "type int int", "wipe int", "undo int", "fault int", "person int int", "window int", "event int int int",
        "back", "read int", "stands int int", "many int", "at int int int", "apart int int int", "done int int",
        "alfred int", "kettle", "come int int", "open int int", "let int int", "spare int", "seen int int int",
        "forget", "never", "was int int", "ask int", "chance int int int", "decades int int int",
        "sheet int int int", "lose int", "put int int int int", "get int int int", "copy int int int int int",
        "write int int", "count int", "digest"};

    // One less than the rule's eight, which may be meant with the one who calls.
    private static final int DEEPEST = 7;

    private static int wrong = 0;

    private static void rule(int number, boolean kept, String what) {
        if (!kept) {
            wrong++;
            System.out.println("rule " + number + ": " + what);
        }
    }

    public static void main(String[] args) throws Exception {
        String source = Files.readString(Path.of("src/main/java/MiddleQueue.java"), StandardCharsets.UTF_8);
        face();
        classes();
        words(withoutComments(source));
        objects(withoutComments(source));
        lengths(source);
        depths(withoutComments(source));
        System.out.println(wrong == 0 ? "the language is kept" : wrong + " breaches of LANGUAGE.md");
        if (wrong != 0) {
            System.exit(1);
        }
    }

    private static void face() {
        TreeSet<String> open = new TreeSet<>();
        TreeSet<String> names = new TreeSet<>();
        List<String> hidden = new ArrayList<>();
        for (Method method : MiddleQueue.class.getDeclaredMethods()) {
            StringBuilder told = new StringBuilder(method.getName());
            for (Class<?> type : method.getParameterTypes()) {
                told.append(' ').append(type.getName());
            }
            if (Modifier.isPublic(method.getModifiers())) {
                open.add(told.toString());
                names.add(method.getName());
                boolean isLong = told.toString().startsWith("chance") || told.toString().equals("digest");
                rule(1, method.getReturnType() == (isLong ? long.class : int.class), told + " answers another type");
                rule(1, !Modifier.isStatic(method.getModifiers()), told + " is static");
            } else {
                rule(1, Modifier.isPrivate(method.getModifiers()), told + " is neither public nor private");
                hidden.add(method.getName());
            }
        }
        rule(1, open.equals(new TreeSet<>(Arrays.asList(FACE))), "the face is " + open);
        for (String name : hidden) {
            rule(1, !names.contains(name), "a private method is named " + name);
        }
        rule(1, MiddleQueue.class.getDeclaredConstructors().length == 1
                && MiddleQueue.class.getConstructors().length == 1, "the constructors");
        rule(1, Modifier.isFinal(MiddleQueue.class.getModifiers()), "the class is not final");
        for (Field field : MiddleQueue.class.getDeclaredFields()) {
            boolean constant = List.of("NONE", "BAD", "NOT", "FULL").contains(field.getName());
            rule(1, constant ? Modifier.isPublic(field.getModifiers()) : Modifier.isPrivate(field.getModifiers()),
                    "the field " + field.getName());
        }
    }

    private static void classes() {
        List<Class<?>> all = new ArrayList<>(List.of(MiddleQueue.class.getDeclaredClasses()));
        all.add(MiddleQueue.class);
        rule(11, all.size() <= 12, all.size() + " classes");
        for (Class<?> one : all) {
            rule(2, one == MiddleQueue.class || Modifier.isStatic(one.getModifiers()), one + " is not static");
            int fields = 0;
            for (Field field : one.getDeclaredFields()) {
                boolean still = Modifier.isStatic(field.getModifiers());
                rule(5, !still || Modifier.isFinal(field.getModifiers()), "static and not final: " + field);
                fields += still ? 0 : 1;
            }
            rule(11, fields <= 20, one + " has " + fields + " fields");
            for (Method method : one.getDeclaredMethods()) {
                rule(11, method.getParameterCount() <= 7, method + " takes too many");
            }
        }
    }

    private static String withoutComments(String source) {
        return source.replaceAll("(?s)/\\*.*?\\*/", "").replaceAll("//[^\n]*", "");
    }

    private static void words(String code) {
        for (String word : new String[] {"throw", "try", "catch", "synchronized", "assert", "import", "package",
            "protected", "hashCode", "toString", "record", "native", "volatile", "while", "double", "float"}) {
            rule(6, !Pattern.compile("\\b" + word + "\\b").matcher(code).find(), "the word " + word);
        }
        rule(2, !code.contains("->") && !code.contains("::"), "a lambda or a method reference");
        rule(4, !Pattern.compile("\\w+Exact\\b").matcher(code).find(), "a function whose name ends in Exact");
        Matcher library = Pattern.compile("\\b(System|Math|Integer|Long|Arrays|String|StringBuilder)\\.(\\w+)")
                .matcher(code);
        while (library.find()) {
            rule(4, List.of("arraycopy", "abs", "max", "min", "bitCount").contains(library.group(2)),
                    library.group());
        }
        for (int i = 0; i < code.length(); i++) {
            rule(3, code.charAt(i) < 128, "the sign " + (int) code.charAt(i));
        }
    }

    // A call that makes nothing can be made any number of times in the one room.
    private static void objects(String code) {
        for (String line : code.split("\n")) {
            boolean made = line.matches(".*\\bnew\\b.*");
            boolean kept = line.matches(" +private final [\\w\\[\\]]+ \\w+ = new .*")
                    || line.contains("this.bytes = new int[") || line.contains("sheets[s] = new Sheet()");
            rule(12, !made || kept, "an object is made in: " + line.trim());
        }
    }

    private static void lengths(String source) {
        TreeMap<Integer, String> starts = new TreeMap<>();
        String[] lines = source.split("\n");
        for (int i = 0; i < lines.length; i++) {
            if (lines[i].matches(" {4,8}[a-zA-Z].*\\) \\{") && !lines[i].trim().startsWith("if")
                    && !lines[i].trim().startsWith("for")) {
                int end = i;
                String close = lines[i].replaceAll("[a-zA-Z].*", "}");
                while (end < lines.length && !lines[end].equals(close)) {
                    end++;
                }
                starts.put(i, lines[i].trim());
                rule(11, end - i < 60, lines[i].trim() + " is " + (end - i + 1) + " lines long");
            }
        }
        rule(11, starts.size() > 80, "only " + starts.size() + " methods were found");
    }

    // By names alone: methods that share one are taken for one, so the depth found is the true one or more.
    private static void depths(String code) {
        TreeMap<String, TreeSet<String>> calls = new TreeMap<>();
        Matcher method = Pattern.compile(
                "(?ms)^( {4}| {8})(?:[\\w\\[\\]]+ )*(\\w+)\\([^()]*\\) \\{$(.*?)^\\1\\}$").matcher(code);
        while (method.find()) {
            Matcher call = Pattern.compile("\\b(\\w+)\\(").matcher(method.group(3));
            TreeSet<String> called = calls.computeIfAbsent(method.group(2), name -> new TreeSet<>());
            while (call.find()) {
                called.add(call.group(1));
            }
        }
        rule(11, calls.size() > 80, "only " + calls.size() + " methods were found");
        for (String name : calls.keySet()) {
            depth(name, calls, new ArrayList<>());
        }
    }

    private static void depth(String name, TreeMap<String, TreeSet<String>> calls, List<String> above) {
        if (!calls.containsKey(name)) {
            return;
        }
        List<String> chain = new ArrayList<>(above);
        chain.add(name);
        rule(8, !above.contains(name), "a recursion: " + chain);
        rule(11, chain.size() <= DEEPEST, "too deep: " + chain);
        if (above.contains(name) || chain.size() > DEEPEST) {
            return;
        }
        for (String called : calls.get(name)) {
            depth(called, calls, chain);
        }
    }
}
