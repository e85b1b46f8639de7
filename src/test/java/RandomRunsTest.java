import java.lang.reflect.Method;
import java.lang.reflect.Modifier;
import java.util.Arrays;
import java.util.HashMap;
import java.util.Map;
import java.util.Random;

/** Holds the class against the model in runs of 512 calls, all of which are drawn from a fixed seed. */
public final class RandomRunsTest {
    private static final int RUNS = 600, CALLS = 512;
    private static final String[] NAMES = {"write", "wipe", "fault", "lay", "member", "eat", "salt",
        "cook", "cool", "trade", "fast", "undo", "passes", "left", "scraper", "spoil", "waits", "most",
        "fasts", "cabal", "trades", "power", "seen", "forget", "may", "likely", "century", "keep",
        "back", "count"};

    private final Check check = new Check();
    private final Map<String, Method> answers = callsOf(SpoonVotes.class);
    private final Map<String, Method> dues = callsOf(Model.class);
    private final Random random = new Random(20261118);

    public static void main(String[] args) throws ReflectiveOperationException {
        RandomRunsTest test = new RandomRunsTest();
        for (int run = 0; run < RUNS; run++) {
            test.run(run);
        }
        test.check.finish("random runs");
    }

    private void run(int run) throws ReflectiveOperationException {
        SpoonVotes votes = new SpoonVotes();
        Model model = new Model();
        int calls = 0;
        while (calls < CALLS) {
            int drawn = random.nextInt(NAMES.length + 1);
            if (drawn == NAMES.length || calls == 0 && run % 4 != 0) {
                String text = text();
                // What calls behind the last of the 512 answer is free.
                if (calls + text.length() + 3 > CALLS) break;
                layAnother(run, text, votes, model);
                calls += text.length() + 3;
                continue;
            }
            String name = NAMES[drawn];
            int[] numbers = numbersFor(name);
            String call = "run " + run + ", call " + calls + ": " + name + " of " + Arrays.toString(numbers);
            check.due(call, ask(answers, votes, name, numbers), ask(dues, model, name, numbers));
            calls++;
        }
    }

    /** Three, of which a call takes the first ones; mostly such as it is told. */
    private int[] numbersFor(String name) {
        int[] numbers = {random.nextInt(7), random.nextInt(7), random.nextInt(2)};
        switch (name) {
            case "write": numbers[0] = 30 + random.nextInt(99); break;
            case "eat": numbers[0] = 1 + random.nextInt(3); break;
            case "cook": numbers[0] = random.nextInt(101); break;
            case "left": numbers[0] = random.nextInt(22); break;
            case "cabal": case "may": numbers[0] = random.nextInt(2); break;
            case "power": numbers[1] = random.nextInt(2); break;
            case "likely": numbers[0] = random.nextInt(11); numbers[1] = random.nextInt(2); break;
            case "century": numbers[0] = random.nextInt(10000); numbers[1] = random.nextInt(42); break;
            case "count": numbers[0] = random.nextInt(12); break;
            default: break;
        }
        if (random.nextInt(10) == 0) numbers[random.nextInt(3)] = anyNumber();
        return numbers;
    }

    private int anyNumber() {
        int[] edges = {Integer.MIN_VALUE, Integer.MAX_VALUE, -1, 0, 1, 2, 7, 10, 11, 19, 20, 21, 40, 41,
            99, 100, 9999, 10000};
        return random.nextInt(3) == 0 ? random.nextInt() : edges[random.nextInt(edges.length)];
    }

    private void layAnother(int run, String text, SpoonVotes votes, Model model) {
        check.due("run " + run + ": wipe", votes.wipe(), model.wipe());
        for (int k = 0; k < text.length(); k++) {
            char letter = text.charAt(k);
            check.due("run " + run + ": write of " + text, votes.write(letter), model.write(letter));
        }
        check.due("run " + run + ": fault of " + text, votes.fault(), model.fault());
        check.due("run " + run + ": lay of " + text, votes.lay(), model.lay());
    }

    private String text() {
        StringBuilder text = new StringBuilder();
        int members = random.nextInt(40) == 0 ? random.nextInt(10) : 1 + random.nextInt(7);
        for (int k = 0; k < members; k++) {
            text.append("m" + random.nextInt(4) + "," + within(1, 9) + "," + within(0, 60) + ","
                    + within(0, 9) + ";");
            if (random.nextInt(6) == 0) text.append(otherItem());
        }
        for (int k = random.nextInt(4); k > 0; k--) text.append(otherItem());
        if (random.nextInt(5) == 0) spoil(text);
        return text.toString();
    }

    private String otherItem() {
        switch (random.nextInt(3)) {
            case 0:
                return "p" + within(0, 99) + "," + within(0, 9) + "," + random.nextInt(random.nextBoolean() ? 4 : 10)
                        + ";";
            case 1:
                return "r" + within(1, 20) + ";";
            default:
                return "f" + within(1, 20) + ";";
        }
    }

    /** At one of its bounds, or just beside it, more often than others. */
    private int within(int least, int greatest) {
        switch (random.nextInt(8)) {
            case 0:
                return least;
            case 1:
                return greatest;
            case 2:
                return greatest - 1;
            default:
                return least + random.nextInt(greatest - least + 1);
        }
    }

    private void spoil(StringBuilder text) {
        String letters = "mprf0123456789,; -a";
        int place = random.nextInt(text.length() + 1);
        char letter = letters.charAt(random.nextInt(letters.length()));
        if (place == text.length() || random.nextBoolean()) {
            text.insert(place, letter);
        } else if (random.nextBoolean()) {
            text.setCharAt(place, letter);
        } else {
            text.deleteCharAt(place);
        }
    }

    private static Map<String, Method> callsOf(Class<?> kind) {
        Map<String, Method> calls = new HashMap<>();
        for (Method method : kind.getDeclaredMethods()) {
            if (!Modifier.isPrivate(method.getModifiers())) calls.put(method.getName(), method);
        }
        return calls;
    }

    private static int ask(Map<String, Method> calls, Object x, String name, int[] numbers)
            throws ReflectiveOperationException {
        Method call = calls.get(name);
        Object[] arguments = new Object[call.getParameterCount()];
        for (int k = 0; k < arguments.length; k++) arguments[k] = numbers[k];
        return (int) call.invoke(x, arguments);
    }
}
