import java.io.IOException;
import java.lang.reflect.InvocationTargetException;
import java.lang.reflect.Method;
import java.nio.file.DirectoryStream;
import java.nio.file.Files;
import java.nio.file.Path;
import java.util.ArrayList;
import java.util.Arrays;
import java.util.HashMap;
import java.util.List;
import java.util.Map;
import java.util.TreeSet;

/**
 * The boundary cases of the document, sentence by sentence, as src/test/edges/*.txt tells them. README.md
 * says how such a text is written. Each sentence is tested on objects of its own.
 */
public final class PatienceDeskEdges {
    private static final Path TEXTS = Path.of("src/test/edges");
    private static final int MOST_CALLS = 512, LEAST_SENTENCES = 176;
    private static final Map<String, Integer> WORDS = Map.of("NONE", -1, "BAD", -2, "STATE", -3, "SPENT", -3,
            "NOT_READY", -4, "MIN", Integer.MIN_VALUE, "MAX", Integer.MAX_VALUE);
    /** What a '/' behind an answer asks for. */
    private static final Map<String, String> ASKED_BEHIND = Map.of("move", "why", "put", "status", "forge", "status");
    private static final Map<String, Method> METHODS = new HashMap<>();

    private final List<Call> calls = new ArrayList<>();
    private PatienceDesk desk = new PatienceDesk();
    private String place = "";
    private String sentence = "";
    private int asked;
    private int sentences;
    private int wrong;
    private int wrongSentences;
    /** What was asked, and what was wrong, ahead of the present sentence. */
    private int askedBefore;
    private int wrongBefore;

    private record Call(String name, int[] numbers) {
        static Call of(String name, int... numbers) {
            return new Call(name, numbers);
        }

        int on(PatienceDesk desk) {
            Object[] boxed = Arrays.stream(numbers).boxed().toArray();
            try {
                return (Integer) METHODS.get(name).invoke(desk, boxed);
            } catch (InvocationTargetException e) {
                throw new IllegalStateException(this + " threw " + e.getCause(), e);
            } catch (ReflectiveOperationException | RuntimeException e) {
                throw new IllegalArgumentException("no such call: " + this, e);
            }
        }

        @Override public String toString() {
            return name + Arrays.toString(numbers).replace('[', '(').replace(']', ')');
        }
    }

    public static void main(String[] args) throws IOException {
        for (Method method : PatienceDesk.class.getMethods()) {
            if (method.getDeclaringClass() == PatienceDesk.class) {
                METHODS.put(method.getName(), method);
            }
        }
        PatienceDeskEdges edges = new PatienceDeskEdges();
        TreeSet<Path> texts = new TreeSet<>();
        try (DirectoryStream<Path> found = Files.newDirectoryStream(TEXTS, "*.txt")) {
            found.forEach(texts::add);
        }
        for (Path text : texts) {
            edges.read(text);
        }
        System.out.println(edges.sentences + " sentences, " + edges.wrongSentences + " of them broken; "
                + edges.asked + " answers, " + edges.wrong + " of them not as due");
        // a folder that is not found or a text that is cut off must not pass
        if (edges.wrong != 0 || edges.sentences < LEAST_SENTENCES) {
            System.exit(1);
        }
    }

    private void read(Path text) throws IOException {
        int number = 0;
        for (String line : Files.readAllLines(text)) {
            number++;
            try {
                step(line.trim());
            } catch (IllegalArgumentException | IllegalStateException e) {
                fail(text.getFileName() + ", line " + number + ": " + line + ": " + e.getMessage());
            }
        }
        closeSentence();
    }

    private void step(String line) {
        String name = line.split(" ", 2)[0];
        String rest = line.substring(name.length()).trim();
        switch (name) {
            case "", "--" -> { }
            case "#" -> {
                closeSentence();
                place = rest;
            }
            case "==" -> {
                closeSentence();
                sentence = rest;
                sentences++;
                renew();
            }
            case "new" -> renew();
            case "deal" -> deal(rest);
            case "column" -> column(rest);
            case "form:" -> row("form", new int[0], numbersOf(rest), -1);
            case "plan:" -> plan(rest);
            case "same" -> same(rest);
            case "times" -> times(rest);
            default -> ask(line);
        }
    }

    private void closeSentence() {
        if (!sentence.isEmpty() && asked == askedBefore) {
            fail("nothing is asked");
        }
        if (wrong > wrongBefore) {
            wrongSentences++;
        }
        sentence = "";
        askedBefore = asked;
        wrongBefore = wrong;
    }

    private void renew() {
        desk = new PatienceDesk();
        calls.clear();
    }

    private void fail(String what) {
        wrong++;
        System.out.println(place + " == " + sentence + ": " + what);
    }

    private void due(Call call, int want) {
        calls.add(call);
        if (calls.size() > MOST_CALLS) {
            throw new IllegalArgumentException("more calls than an object has");
        }
        asked++;
        int got = call.on(desk);
        if (got != want) {
            List<Call> run = calls.subList(Math.max(0, calls.size() - 12), calls.size());
            fail(call + " answered " + got + ", due is " + want + " (the run: " + run + ")");
        }
    }

    private static int numberOf(String word) {
        return WORDS.containsKey(word) ? WORDS.get(word) : Integer.parseInt(word);
    }

    private static int[] numbersOf(String text) {
        String trimmed = text.trim();
        return trimmed.isEmpty() ? new int[0]
                : Arrays.stream(trimmed.split("\\s+")).mapToInt(PatienceDeskEdges::numberOf).toArray();
    }

    /** move 0 4 = 0 / 2 */
    private void ask(String line) {
        String[] sides = line.split("=", 2);
        if (sides.length < 2) {
            throw new IllegalArgumentException("no answer is told");
        }
        Call call = callOf(sides[0]);
        String[] answers = sides[1].split("/");
        due(call, numberOf(answers[0].trim()));
        if (answers.length > 1) {
            due(Call.of(ASKED_BEHIND.get(call.name)), numberOf(answers[1].trim()));
        }
    }

    private static Call callOf(String text) {
        String[] words = text.trim().split("\\s+", 2);
        return new Call(words[0], numbersOf(words.length > 1 ? words[1] : ""));
    }

    /** deal 2 2 2 1 0: 1 10 | 9 2 */
    private void deal(String text) {
        String[] sides = text.split(":", 2);
        int[] table = numbersOf(sides[0]);
        due(new Call("begin", table), table[0] * table[1]);
        int laid = 0;
        int column = 0;
        for (String codes : sides[1].split("\\|")) {
            for (int code : numbersOf(codes)) {
                due(Call.of("lay", column, code / 8, code % 8), ++laid);
            }
            column++;
        }
        due(Call.of("count", 1), table[0] * table[1]);
    }

    /** column 0: 1 10 */
    private void column(String text) {
        String[] sides = text.split(":", 2);
        row("card", numbersOf(sides[0]), numbersOf(sides[1]), 0);
    }

    private void row(String name, int[] ahead, int[] numbers, int behind) {
        for (int i = 0; i <= numbers.length; i++) {
            int[] asking = Arrays.copyOf(ahead, ahead.length + 1);
            asking[ahead.length] = i;
            due(new Call(name, asking), i < numbers.length ? numbers[i] : behind);
        }
    }

    /** plan: 0-4 0-5 */
    private void plan(String text) {
        int[] numbers = numbersOf(text.replace('-', ' '));
        for (int i = 0; i < numbers.length + 2; i++) {
            due(Call.of("plan", i / 2, i % 2), i < numbers.length ? numbers[i] : -1);
        }
    }

    /** times 3: move 0 1 = 1; move 1 0 = 1 */
    private void times(String text) {
        String[] sides = text.split(":", 2);
        int times = numberOf(sides[0].trim());
        for (int i = 0; i < times; i++) {
            for (String call : sides[1].split(";")) {
                ask(call.trim());
            }
        }
    }

    /** same move 0 0 = BAD: the call must change nothing that can be asked. */
    private void same(String text) {
        Call call = callOf(text.split("=", 2)[0]);
        // put() and forge() have a status of their own even where they change nothing else
        boolean withStatus = !"status".equals(ASKED_BEHIND.get(call.name));
        List<String> without = toldBy(replayed(), withStatus);
        PatienceDesk other = replayed();
        call.on(other);
        List<String> with = toldBy(other, withStatus);
        for (int i = 0; i < with.size(); i++) {
            if (!with.get(i).equals(without.get(i))) {
                fail(call + " changed something: " + without.get(i) + " became " + with.get(i));
            }
        }
        ask(text);
    }

    private PatienceDesk replayed() {
        PatienceDesk again = new PatienceDesk();
        for (Call call : calls) {
            call.on(again);
        }
        return again;
    }

    private static List<String> toldBy(PatienceDesk x, boolean withStatus) {
        List<Call> asking = new ArrayList<>();
        if (withStatus) {
            asking.add(Call.of("status"));
        }
        asking.add(Call.of("why"));
        for (int i = 0; i < 14; i++) {
            asking.add(Call.of("count", i));
            asking.add(Call.of("plan", i / 2, i % 2));
        }
        for (int i = 0; i < 4; i++) {
            asking.add(Call.of("house", i));
            asking.add(Call.of("cell", i));
            addAll(asking, 8, "card", i);
        }
        addAll(asking, 19, "form");
        for (int tray = 0; tray < 6; tray++) {
            for (int[] whatAndPlace : new int[][] {{6, 0}, {0, 0}, {1, 0}, {2, 1}, {3, 1}}) {
                asking.add(Call.of("forge", tray, whatAndPlace[0], whatAndPlace[1]));
                asking.add(Call.of("status"));
            }
        }
        asking.add(Call.of("redo"));
        addAll(asking, 19, "form");
        asking.add(Call.of("undo"));
        asking.add(Call.of("undo"));
        addAll(asking, 19, "form");
        List<String> told = new ArrayList<>();
        for (Call call : asking) {
            told.add(call + " = " + call.on(x));
        }
        return told;
    }

    private static void addAll(List<Call> asking, int size, String name, int... ahead) {
        for (int i = 0; i < size; i++) {
            int[] numbers = Arrays.copyOf(ahead, ahead.length + 1);
            numbers[ahead.length] = i;
            asking.add(new Call(name, numbers));
        }
    }
}
