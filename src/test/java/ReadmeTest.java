import java.io.IOException;
import java.lang.reflect.Field;
import java.lang.reflect.Method;
import java.net.URL;
import java.net.URLClassLoader;
import java.nio.file.Files;
import java.nio.file.Path;
import java.util.ArrayList;
import java.util.Arrays;
import java.util.Comparator;
import java.util.List;
import java.util.Map;
import java.util.Random;
import java.util.Set;
import java.util.TreeMap;
import java.util.TreeSet;
import java.util.regex.Matcher;
import java.util.regex.Pattern;
import java.util.stream.Stream;
import javax.tools.ToolProvider;

/** What README.md says: its calls compile and answer as told, its tables hold, and its tests are those there are. */
public final class ReadmeTest {
    private static final Check CHECK = new Check();
    private static final Path README = Path.of("README.md");
    private static final Path TESTS = Path.of("src/test/java");
    private static final String SHOWN = "Shown";
    /** A call, perhaps kept in a variable, and behind // what it answers. */
    private static final Pattern ANSWERED =
            Pattern.compile("(\\s*(?:int \\w+ = )?)(\\w+\\.\\w+\\(.*\\));\\s*// (-?\\d+|BAD|NO|FULL|NONE)(?::.*)?");
    private static final Pattern ROW_OF_CALL =
            Pattern.compile("\\| `(\\w+)\\(([a-z, ]*)\\)` \\| (.*) \\| ?([A-Z, ]*) \\|");

    public static void main(String[] args) throws Exception {
        List<String> page = Files.readAllLines(README);
        showsCalls(page);
        tableOfItems(page);
        tableOfAnswersBelowZero(page);
        tableOfCalls(page);
        namesTests(page);
        CHECK.finish("readme");
    }

    /** Asked by the class that is made of the page; so that is loaded elsewhere, this is public. */
    public static int due(String call, int got, int want) {
        CHECK.due("README: " + call, got, want);
        return got;
    }

    // ---- the calls that it shows

    private static void showsCalls(List<String> page) throws Exception {
        List<List<String>> blocks = blocks(page);
        CHECK.isTrue("calls are shown", blocks.size() >= 4);
        StringBuilder source = new StringBuilder("public final class " + SHOWN + " {\n");
        for (int k = 0; k < blocks.size(); k++) {
            source.append("public static void block").append(k).append("() {\n");
            for (String line : blocks.get(k)) {
                source.append(asked(line)).append('\n');
            }
            source.append("}\n");
        }
        run(source.append("}\n").toString(), blocks.size());
    }

    private static List<List<String>> blocks(List<String> page) {
        List<List<String>> blocks = new ArrayList<>();
        boolean inside = false;
        for (String line : page) {
            if (line.startsWith("```")) {
                inside = line.equals("```java");
                if (inside) blocks.add(new ArrayList<>());
            } else if (inside) {
                blocks.get(blocks.size() - 1).add(line);
            }
        }
        return blocks;
    }

    private static String asked(String line) {
        Matcher matcher = ANSWERED.matcher(line);
        if (!matcher.matches()) {
            CHECK.isTrue("README tells in its form what is answered: " + line, !line.contains("//"));
            return line;
        }
        String want = matcher.group(3);
        return matcher.group(1) + "ReadmeTest.due(\"" + matcher.group(2).replace("\"", "'") + "\", "
                + matcher.group(2) + ", " + (want.matches("[A-Z]+") ? "SpoonVotes." : "") + want + ");";
    }

    private static void run(String source, int blocks) throws Exception {
        Path folder = Files.createTempDirectory("readme");
        try {
            Path file = Files.writeString(folder.resolve(SHOWN + ".java"), source);
            int code = ToolProvider.getSystemJavaCompiler().run(null, null, null, "-Xlint:all", "-Werror",
                    "-cp", System.getProperty("java.class.path"), "-d", folder.toString(), file.toString());
            CHECK.due("compiling what README shows", code, 0);
            if (code != 0) return;
            try (URLClassLoader loader = new URLClassLoader(new URL[] {folder.toUri().toURL()})) {
                for (int k = 0; k < blocks; k++) {
                    loader.loadClass(SHOWN).getMethod("block" + k).invoke(null);
                }
            }
        } finally {
            remove(folder);
        }
    }

    private static void remove(Path folder) throws IOException {
        try (Stream<Path> files = Files.walk(folder)) {
            for (Path file : files.sorted(Comparator.reverseOrder()).toList()) {
                Files.delete(file);
            }
        }
    }

    // ---- its tables

    private static void tableOfItems(List<String> page) {
        Pattern row = Pattern.compile("\\| `([mprf])([A-Z,]+);` \\| .* \\| (.*) \\| (?:`(.*)` )?\\|");
        int rows = 0;
        for (String line : page) {
            Matcher matcher = row.matcher(line);
            if (!matcher.matches()) continue;
            rows++;
            boundsOfItem(matcher.group(1), matcher.group(2).split(","), matcher.group(3));
            if (matcher.group(4) != null) holdsWithout(matcher.group(4));
        }
        CHECK.due("kinds of items in README", rows, 4);
        CHECK.due("seven members", Check.written("m0,1,0,0;".repeat(7)).fault(), SpoonVotes.NONE);
        CHECK.due("eight members", Check.written("m0,1,0,0;".repeat(8)).fault(), 7 * 9);
    }

    private static void boundsOfItem(String letter, String[] names, String told) {
        int[] least = new int[names.length];
        int[] greatest = new int[names.length];
        for (int k = 0; k < names.length; k++) {
            Matcher matcher = Pattern.compile("\\b" + names[k] + " (\\d+) to (\\d+)").matcher(told);
            CHECK.isTrue("README tells the bounds of " + letter + " " + names[k], matcher.find());
            least[k] = Integer.parseInt(matcher.group(1));
            greatest[k] = Integer.parseInt(matcher.group(2));
        }
        for (int k = 0; k < names.length; k++) {
            hasFault(letter, with(least, k, least[k]), false);
            hasFault(letter, with(least, k, greatest[k]), false);
            if (least[k] > 0) hasFault(letter, with(least, k, least[k] - 1), true);
            if (greatest[k] < 99) hasFault(letter, with(least, k, greatest[k] + 1), true);
        }
    }

    private static int[] with(int[] numbers, int k, int number) {
        int[] others = numbers.clone();
        others[k] = number;
        return others;
    }

    private static void hasFault(String letter, int[] numbers, boolean isFault) {
        String item = letter + Arrays.toString(numbers).replaceAll("[\\[\\] ]", "") + ";";
        CHECK.due("fault() of " + item, Check.written(item).fault(), isFault ? 0 : SpoonVotes.NONE);
    }

    private static void holdsWithout(String item) {
        SpoonVotes without = Check.laid("m0,1,0,9;");
        SpoonVotes with = Check.laid("m0,1,0,9;" + item);
        for (int what = 0; what <= 4; what++) {
            CHECK.due("count(" + what + ") without " + item, without.count(what), with.count(what));
        }
        CHECK.due("fast() without " + item, without.fast(), with.fast());
    }

    private static void tableOfAnswersBelowZero(List<String> page) throws Exception {
        Pattern row = Pattern.compile("\\| `SpoonVotes\\.([A-Z]+)` \\| (-\\d) \\| .* \\|");
        Set<String> told = new TreeSet<>();
        for (String line : page) {
            Matcher matcher = row.matcher(line);
            if (!matcher.matches()) continue;
            told.add(matcher.group(1));
            CHECK.due("README: " + matcher.group(1), Integer.parseInt(matcher.group(2)),
                    SpoonVotes.class.getField(matcher.group(1)).getInt(null));
        }
        CHECK.isTrue("README tells all answers below 0", told.equals(constants()));
    }

    private static Set<String> constants() {
        Set<String> names = new TreeSet<>();
        for (Field field : SpoonVotes.class.getFields()) {
            names.add(field.getName());
        }
        return names;
    }

    private static void tableOfCalls(List<String> page) throws Exception {
        Map<String, Set<Integer>> found = answersBelowZero();
        Set<String> told = new TreeSet<>();
        for (String line : page) {
            Matcher matcher = ROW_OF_CALL.matcher(line);
            if (!matcher.matches()) continue;
            String name = matcher.group(1);
            String[] numbers = matcher.group(2).isEmpty() ? new String[0] : matcher.group(2).split(", ");
            told.add(name + numbers.length);
            Set<Integer> below = new TreeSet<>();
            for (String constant : matcher.group(4).split("[ ,]+")) {
                if (!constant.isEmpty()) below.add(SpoonVotes.class.getField(constant).getInt(null));
            }
            CHECK.isTrue("README on " + name + ": answers below 0 are " + found.get(name),
                    below.equals(found.get(name)));
            boundsOfCall(name, numbers, matcher.group(3));
        }
        CHECK.isTrue("README tells all calls: " + told, told.equals(face()));
    }

    private static Set<String> face() {
        Set<String> calls = new TreeSet<>();
        for (Method method : calls()) {
            calls.add(method.getName() + method.getParameterCount());
        }
        return calls;
    }

    /** In the order of their names: by reflection they come in none. */
    private static List<Method> calls() {
        return Stream.of(SpoonVotes.class.getMethods())
                .filter(method -> method.getDeclaringClass() == SpoonVotes.class)
                .sorted(Comparator.comparing(Method::getName)).toList();
    }

    private static void boundsOfCall(String name, String[] numbers, String told) throws Exception {
        for (int k = 0; k < numbers.length; k++) {
            Matcher matcher = Pattern.compile("\\b" + numbers[k] + " \\((\\d+) to (\\d+)\\)").matcher(told);
            boolean isTold = matcher.find();
            CHECK.isTrue("README tells the bounds of " + numbers[k] + " of " + name,
                    isTold || numbers[k].matches("i|j|what|part"));
            if (!isTold) continue;
            int least = Integer.parseInt(matcher.group(1));
            int greatest = Integer.parseInt(matcher.group(2));
            isBad(name, numbers, k, least - 1, true);
            isBad(name, numbers, k, least, false);
            isBad(name, numbers, k, greatest, false);
            isBad(name, numbers, k, greatest + 1, true);
        }
    }

    private static void isBad(String name, String[] numbers, int k, int number, boolean isBad) throws Exception {
        Class<?>[] types = new Class<?>[numbers.length];
        Object[] values = new Object[numbers.length];
        for (int other = 0; other < numbers.length; other++) {
            types[other] = int.class;
            // One that is told for each number that a call takes beside another.
            values[other] = other == k ? number : numbers[other].equals("n") ? 1 : 0;
        }
        int answer = (int) SpoonVotes.class.getMethod(name, types).invoke(new SpoonVotes(), values);
        CHECK.isTrue("README on " + numbers[k] + " of " + name + ": " + number + " answers " + answer,
                (answer == SpoonVotes.BAD) == isBad);
    }

    /** By call, which answers below 0 came up in calls drawn from a seed. */
    private static Map<String, Set<Integer>> answersBelowZero() throws Exception {
        Map<String, Set<Integer>> found = new TreeMap<>();
        List<Method> calls = calls();
        for (Method call : calls) {
            found.put(call.getName(), new TreeSet<>());
        }
        Random random = new Random(9);
        for (int run = 0; run < 200; run++) {
            SpoonVotes votes = new SpoonVotes();
            int asked = 0;
            // Some objects with a text that is full, which short runs never come to.
            for (; run % 20 == 0 && asked < 200; asked++) {
                votes.write('x');
            }
            for (; asked < 512; asked++) {
                Method call = calls.get(random.nextInt(calls.size()));
                Object[] numbers = new Object[call.getParameterCount()];
                for (int k = 0; k < numbers.length; k++) {
                    numbers[k] = random.nextInt(4) == 0 ? random.nextInt(100) - 1 : random.nextInt(4);
                }
                int answer = (int) call.invoke(votes, numbers);
                if (answer < 0) found.get(call.getName()).add(answer);
            }
        }
        return found;
    }

    // ---- the tests that it names

    private static void namesTests(List<String> page) throws IOException {
        Set<String> named = new TreeSet<>();
        Matcher matcher = Pattern.compile("\\b\\w+Test\\b").matcher(String.join("\n", page));
        while (matcher.find()) {
            named.add(matcher.group());
        }
        Set<String> there = new TreeSet<>();
        try (Stream<Path> files = Files.list(TESTS)) {
            for (Path file : files.toList()) {
                String name = file.getFileName().toString();
                if (name.endsWith("Test.java")) there.add(name.substring(0, name.length() - 5));
            }
        }
        CHECK.isTrue("README names the tests that there are: " + there, named.equals(there));
        CHECK.isTrue(".ci/run can be run", Files.isExecutable(Path.of(".ci/run")));
    }
}
