import java.lang.reflect.Method;
import java.util.HashMap;
import java.util.Map;

/**
 * A new LastDays, and calls on it told as they are written: "set(0, 51) = BAD; lawOf(0) = 29". A call without an
 * answer may answer as it likes. MIN and MAX are those of int. Whatever is not as due is told with its sentence.
 */
final class Story {
    /** Behind these the document leaves all answers free, so that no test may ask for any. */
    private static final int MOST_CALLS = 512;
    private static final Map<String, Method> FACE = face();

    private final Check check;
    private final String sentence;
    private final LastDays x = new LastDays();
    private int calls;

    Story(Check check, String sentence) {
        this.check = check;
        this.sentence = sentence;
    }

    Story does(String lines) {
        for (String line : lines.split(";")) {
            int at = line.indexOf('=');
            String call = (at < 0 ? line : line.substring(0, at)).trim();
            if (call.isEmpty()) {
                continue;
            }
            int got = answer(call);
            if (at >= 0) {
                due(call, number(line.substring(at + 1)), got);
            }
        }
        return this;
    }

    /** The same call with the numbers from first to last for '#'. */
    Story each(int first, int last, String lines) {
        for (int i = first; i <= last; i++) {
            does(lines.replace("#", String.valueOf(i)));
        }
        return this;
    }

    /** What a call with 0, 1, 2 .. for '#' answers. */
    Story row(String call, int... answers) {
        for (int i = 0; i < answers.length; i++) {
            String one = call.replace("#", String.valueOf(i));
            due(one, answers[i], answer(one));
        }
        return this;
    }

    /** Each char is a byte. */
    Story feeds(String text) {
        for (int at = 0; at < text.length(); at += 8) {
            int n = Math.min(8, text.length() - at);
            long eight = 0;
            for (int i = 0; i < n; i++) {
                eight |= (long) text.charAt(at + i) << (8 * i);
            }
            count();
            x.feed(eight, n);
        }
        return this;
    }

    /** Feeds a text to an empty TAPE, and reads it. */
    Story reads(String text, int answer) {
        feeds(text);
        due("THE TAPE of \"" + text + "\"", text.length(), answer("many(4)"));
        due("task() of \"" + text + "\"", answer, answer("task()"));
        return this;
    }

    void due(String call, long want, long got) {
        check.due(sentence + ": call " + calls + ", " + call, want, got);
    }

    int answer(String call) {
        int open = call.indexOf('(');
        Method method = FACE.get(call.substring(0, open));
        String inside = call.substring(open + 1, call.lastIndexOf(')')).trim();
        String[] told = inside.isEmpty() ? new String[0] : inside.split(",");
        if (method == null || told.length != method.getParameterCount()) {
            throw new IllegalArgumentException("no such call: " + call);
        }
        Object[] arguments = new Object[told.length];
        for (int i = 0; i < told.length; i++) {
            long v = number(told[i]);
            if (method.getParameterTypes()[i] == int.class) {
                arguments[i] = Math.toIntExact(v);
            } else {
                arguments[i] = v;
            }
        }
        count();
        try {
            return (Integer) method.invoke(x, arguments);
        } catch (ReflectiveOperationException e) {
            throw new IllegalStateException(sentence + ": " + call + " failed", e);
        }
    }

    /** All that can be seen, as one text. What is seen only by using it up comes last, so a Story ends with it. */
    String all(boolean withTrace) {
        StringBuilder seen = new StringBuilder();
        see(seen, "many(#)", 5);
        seeCourse(seen);
        for (int i = 0; i < 3; i++) {
            see(seen, "row(" + i + ", #)", 3);
        }
        if (withTrace) {
            see(seen, "many(5)", 1);
            see(seen, "trace(#)", 6);
        }
        for (int sheet = 0; sheet < 4; sheet++) {
            for (int sort = 0; sort < 4; sort++) {
                see(seen, "item(" + sheet + ", " + sort + ", #)", 3);
            }
        }
        for (int shelf = 0; shelf < 4; shelf++) {
            see(seen, "taken(" + shelf + ", #)", 3);
            see(seen, "taken(" + shelf + ", 1#)", 4);
        }
        see(seen, "task()", 1);
        seeCourse(seen);
        see(seen, "again()", 1);
        seeCourse(seen);
        return seen.toString();
    }

    private void seeCourse(StringBuilder seen) {
        see(seen, "today()", 1);
        see(seen, "lawOf(#)", 5);
        see(seen, "dateOf(#, 0)", answer("many(1)"));
        see(seen, "dateOf(#, 1)", answer("many(1)"));
        int people = answer("many(0)");
        for (int i = 0; i < people; i++) {
            see(seen, "personOf(" + i + ", #)", 7);
        }
        int z = answer("seed(1)");
        seen.append("z ").append(z).append('\n');
        answer("seed(" + z + ")");
    }

    private void see(StringBuilder seen, String call, int many) {
        seen.append(call);
        for (int i = 0; i < many; i++) {
            seen.append(' ').append(answer(call.replace("#", String.valueOf(i))));
        }
        seen.append('\n');
    }

    private void count() {
        calls++;
        if (calls > MOST_CALLS) {
            throw new IllegalStateException(sentence + ": a Story of more than " + MOST_CALLS + " calls");
        }
    }

    private static long number(String told) {
        switch (told.trim()) {
            case "BAD": return -1;
            case "FULL": return -2;
            case "NONE": return -3;
            case "STATE": return -4;
            case "MIN": return Integer.MIN_VALUE;
            case "MAX": return Integer.MAX_VALUE;
            default: return Long.parseLong(told.trim());
        }
    }

    private static Map<String, Method> face() {
        Map<String, Method> face = new HashMap<>();
        for (Method m : LastDays.class.getDeclaredMethods()) {
            if (java.lang.reflect.Modifier.isPublic(m.getModifiers())) {
                face.put(m.getName(), m);
            }
        }
        return face;
    }
}
