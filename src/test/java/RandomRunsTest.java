import java.lang.reflect.Method;
import java.util.ArrayList;
import java.util.Comparator;
import java.util.List;
import java.util.Random;

/** Runs of calls drawn from a fixed seed, on LastDays and on the Oracle at once. */
public final class RandomRunsTest {
    private static final int RUNS = 400;
    private static final int CALLS = 512;
    private static final int[] EDGES = {-1, 60, 61, 120, 121, 255, -129, 40000, 1 << 30, (1 << 30) - 1,
        Integer.MAX_VALUE, Integer.MIN_VALUE, Integer.MAX_VALUE - 1};
    private static final String[] WORDS = {"worker", "late", "halver", "waiter", "steady", "busy", "work", "ill",
        "due", "most", "penalty", "date", "part", ";", ",", "idler", "A", "\u00e9", "0", "7", "29", "30", "50", "99", "100"};

    private final Check check = new Check();
    private final Random random;
    private final LastDays x = new LastDays();
    private final Oracle oracle = new Oracle();
    private final StringBuilder story = new StringBuilder();
    private int calls;

    private RandomRunsTest(long seed) {
        random = new Random(seed);
    }

    public static void main(String[] args) throws Exception {
        List<Method> calls = new ArrayList<>();
        for (Method m : LastDays.class.getDeclaredMethods()) {
            if (java.lang.reflect.Modifier.isPublic(m.getModifiers())) {
                calls.add(m);
            }
        }
        calls.sort(Comparator.comparing(Method::getName));
        for (int run = 0; run < RUNS; run++) {
            if (!new RandomRunsTest(run).sameAnswers(calls)) {
                System.exit(1);
            }
        }
        System.out.println(RUNS + " runs of " + CALLS + " calls are as the oracle's");
    }

    private boolean sameAnswers(List<Method> face) throws Exception {
        while (calls < CALLS) {
            Method call = face.get(random.nextInt(face.size()));
            if (call.getName().equals("feed") && random.nextInt(2) == 0) {
                if (!feedText()) {
                    return false;
                }
            } else if (!rare(call) && !same(call, arguments(call))) {
                return false;
            }
        }
        return true;
    }

    /** Calls that end what a run has built up come seldom. */
    private boolean rare(Method call) {
        String name = call.getName();
        return (name.equals("task") || name.equals("days") || name.equals("again")) && random.nextInt(3) > 0;
    }

    private Object[] arguments(Method call) {
        Class<?>[] types = call.getParameterTypes();
        Object[] arguments = new Object[types.length];
        for (int k = 0; k < types.length; k++) {
            if (types[k] == long.class) {
                arguments[k] = random.nextLong();
            } else {
                arguments[k] = number(call.getName(), k);
            }
        }
        return arguments;
    }

    private int number(String name, int k) {
        int draw = random.nextInt(40);
        if (draw == 0) {
            return EDGES[random.nextInt(EDGES.length)];
        }
        if (draw == 1) {
            return random.nextInt();
        }
        if (name.equals("ill") && k == 1) {
            return random.nextInt(1 << 30) & random.nextInt(1 << 30);
        }
        boolean wide = name.equals("date") || name.equals("person") && k == 2 || name.equals("heap")
                || name.equals("enough") && k == 1 || name.equals("put") && k == 2 || name.equals("set") && k == 1;
        if (wide) {
            return random.nextInt(random.nextBoolean() ? 12 : 60) + random.nextInt(2) * random.nextInt(50);
        }
        if (name.equals("taken") && k == 1) {
            return random.nextBoolean() ? random.nextInt(6) : 10 + random.nextInt(4);
        }
        return random.nextInt(name.equals("days") ? 9 : random.nextInt(4) == 0 ? 12 : 4);
    }

    private boolean feedText() throws Exception {
        Method feed = LastDays.class.getMethod("feed", long.class, int.class);
        StringBuilder text = new StringBuilder();
        int many = random.nextInt(7) + 1;
        for (int i = 0; i < many; i++) {
            text.append(statement());
        }
        if (random.nextInt(4) == 0) {
            int at = random.nextInt(text.length() + 1);
            text.insert(at, random.nextBoolean() ? " " : WORDS[random.nextInt(WORDS.length)]);
        }
        if (random.nextInt(6) == 0) {
            text.setLength(random.nextInt(text.length() + 1));
        }
        for (int at = 0; at < text.length(); at += 8) {
            int n = Math.min(8, text.length() - at);
            long eight = random.nextLong();
            for (int i = n - 1; i >= 0; i--) {
                eight = eight << 8 | text.charAt(at + i);
            }
            if (!same(feed, new Object[] {eight, n})) {
                return false;
            }
        }
        return random.nextInt(3) == 0 || same(LastDays.class.getMethod("task"), new Object[0]);
    }

    private String statement() {
        int sort = random.nextInt(9);
        if (sort < 5) {
            String ill = "";
            int many = random.nextInt(4);
            for (int i = 0; i < many; i++) {
                ill += (i == 0 ? " ill " : ",") + near(29);
            }
            return WORDS[random.nextInt(6)] + " " + near(9) + " work " + near(99) + ill + ";";
        }
        if (sort == 5) {
            return "due " + near(50) + " ; ";
        }
        if (sort == 6) {
            return "most " + near(12) + ";";
        }
        if (sort == 7) {
            return "penalty" + near(30) + ";";
        }
        return "date " + near(49) + " part " + near(99) + ";";
    }

    private int near(int most) {
        return random.nextInt(most + (random.nextInt(30) == 0 ? 2 : 1));
    }

    /** Behind the last of CALLS the document leaves all answers free. */
    private boolean same(Method call, Object[] arguments) throws Exception {
        if (calls == CALLS) {
            return true;
        }
        calls++;
        Method twin = Oracle.class.getDeclaredMethod(call.getName(), call.getParameterTypes());
        int want = (Integer) twin.invoke(oracle, arguments);
        int got = (Integer) call.invoke(x, arguments);
        story.append(call.getName()).append(java.util.Arrays.toString(arguments)).append(" = ").append(got).append('\n');
        if (want != got) {
            System.out.print(story);
            check.due(call.getName() + java.util.Arrays.toString(arguments), want, got);
        }
        return want == got;
    }
}
