import java.lang.reflect.Method;
import java.util.HashMap;
import java.util.Map;

/** An object of RiverTolls whose calls are told as texts, such as sets(0, 9); they are counted, as what the 513th answers is free. */
final class Run {
    private static final int MOST_CALLS = 512;
    private static final Map<String, Method> FACE = new HashMap<>();
    private static final Map<String, Object[]> NUMBERS = new HashMap<>();

    static {
        for (Method m : RiverTolls.class.getMethods()) {
            if (m.getDeclaringClass() == RiverTolls.class) FACE.put(m.getName(), m);
        }
    }

    private final RiverTolls tolls = new RiverTolls();
    private final StringBuilder told = new StringBuilder();
    private int calls;

    /** A new object that was told a text, which is to be without a fault. */
    static Run of(String text) {
        Run run = new Run();
        if (!text.isEmpty() && run.type(text).ask("river()") < 0) throw new IllegalArgumentException("a fault in " + text);
        return run;
    }

    long ask(String call) {
        calls++;
        if (calls > MOST_CALLS) throw new IllegalStateException("a test with more than 512 calls: " + told);
        String name = call.substring(0, call.indexOf('('));
        try {
            long answer = ((Number) FACE.get(name).invoke(tolls, numbers(call))).longValue();
            told.append(' ').append(call).append('=').append(answer);
            return answer;
        } catch (ReflectiveOperationException e) {
            throw new IllegalStateException(told + " " + call, e);
        }
    }

    private static Object[] numbers(String call) {
        return NUMBERS.computeIfAbsent(call, c -> {
            String inside = c.substring(c.indexOf('(') + 1, c.indexOf(')'));
            if (inside.isEmpty()) return new Object[0];
            String[] words = inside.split(",");
            Object[] numbers = new Object[words.length];
            for (int i = 0; i < words.length; i++) numbers[i] = Integer.parseInt(words[i].trim());
            return numbers;
        });
    }

    Run type(String letters) {
        for (int i = 0; i < letters.length(); i++) {
            calls++;
            tolls.type(letters.charAt(i));
        }
        told.append(" \"").append(letters).append('"');
        return this;
    }

    int calls() {
        return calls;
    }

    /** All calls of a script, parted by ; whatever they answer. */
    Run then(String script) {
        for (String call : script.split(";")) if (!call.isBlank()) ask(call.trim());
        return this;
    }

    @Override
    public String toString() {
        return told.toString().trim();
    }
}
