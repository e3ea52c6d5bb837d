import java.lang.reflect.Constructor;
import java.lang.reflect.Field;
import java.lang.reflect.Method;
import java.lang.reflect.Modifier;
import java.nio.file.Files;
import java.nio.file.Path;
import java.util.Set;
import java.util.TreeSet;
import java.util.regex.Matcher;
import java.util.regex.Pattern;

/** The document's face and no more, and those rules of LANGUAGE.md that can be seen from outside. Runs at the project's root. */
public final class FaceTest {
    private static final Check CHECK = new Check();
    private static final String FACE = "feed(long,int) task() set(int,int) lawOf(int) date(int,int) dateOf(int,int)"
            + " strike(int) person(int,int,int) personOf(int,int) mind(int,int,int) ill(int,int) goal(int,int) today()"
            + " days(int) heap(int) when(int) markOf(int) late() marks() bestDate() enough(int,int) patience(int)"
            + " worst(int) sooner() seed(int) lot(int) prove(int,int) row(int,int) alterRow(int,int,int) judge(int)"
            + " minds(int,int,int,int) sheet(int,int,int) put(int,int,int) item(int,int,int) shelf(int,int,int)"
            + " taken(int,int) act(int,int,int) trace(int) many(int) keep() again()";

    public static void main(String[] args) throws Exception {
        face();
        members(LastDays.class);
        for (Class<?> inside : LastDays.class.getDeclaredClasses()) {
            CHECK.holds(inside.getName() + " is static", Modifier.isStatic(inside.getModifiers()));
            CHECK.holds(inside.getName() + " is not public", !Modifier.isPublic(inside.getModifiers()));
            members(inside);
        }
        source(Files.readString(Path.of("src/main/java/LastDays.java")));
        CHECK.end();
    }

    private static void face() {
        Set<String> seen = new TreeSet<>();
        for (Method m : LastDays.class.getDeclaredMethods()) {
            if (Modifier.isPrivate(m.getModifiers())) {
                continue;
            }
            StringBuilder types = new StringBuilder();
            for (Class<?> type : m.getParameterTypes()) {
                types.append(types.length() == 0 ? "" : ",").append(type.getName());
            }
            seen.add(m.getName() + "(" + types + ")");
            CHECK.holds(m.getName() + " is public, and answers an int",
                    Modifier.isPublic(m.getModifiers()) && m.getReturnType() == int.class);
        }
        Set<String> due = new TreeSet<>(Set.of(FACE.split(" ")));
        CHECK.holds("methods " + seen + " are " + due, seen.equals(due));
        Set<String> constants = Set.of("BAD", "FULL", "NONE", "STATE");
        for (Field f : LastDays.class.getDeclaredFields()) {
            CHECK.holds(f + " is in the face or private",
                    Modifier.isPrivate(f.getModifiers()) || constants.contains(f.getName()));
        }
        CHECK.due("BAD", -1, LastDays.BAD);
        CHECK.due("FULL", -2, LastDays.FULL);
        CHECK.due("NONE", -3, LastDays.NONE);
        CHECK.due("STATE", -4, LastDays.STATE);
        Constructor<?>[] constructors = LastDays.class.getDeclaredConstructors();
        CHECK.holds("one public constructor without parameters", constructors.length == 1
                && Modifier.isPublic(constructors[0].getModifiers()) && constructors[0].getParameterCount() == 0);
        CHECK.holds("the class is public and final",
                Modifier.isPublic(LastDays.class.getModifiers()) && Modifier.isFinal(LastDays.class.getModifiers()));
    }

    private static void members(Class<?> type) {
        int fields = 0;
        for (Field f : type.getDeclaredFields()) {
            if (Modifier.isStatic(f.getModifiers())) {
                CHECK.holds(f + " is final", Modifier.isFinal(f.getModifiers()));
            } else {
                fields++;
            }
        }
        CHECK.holds(type + " has twenty fields at most", fields <= 20);
        for (Method m : type.getDeclaredMethods()) {
            CHECK.holds(m + " takes seven at most", m.getParameterCount() <= 7);
            boolean named = (" " + FACE).contains(" " + m.getName() + "(");
            CHECK.holds(m + " bears no name of the face",
                    !named || type == LastDays.class && Modifier.isPublic(m.getModifiers()));
        }
    }

    private static void source(String text) {
        String code = text.replaceAll("(?s)/\\*.*?\\*/", "").replaceAll("//[^\n]*", "").replaceAll("\"[^\"]*\"", "\"\"");
        Matcher m = Pattern.compile("\\b(throw|throws|try|catch|synchronized|assert|package|record|Random|Thread"
                + "|\\w+Exact|System\\.(?!arraycopy)\\w+)\\b|->|::").matcher(code);
        boolean found = m.find();
        CHECK.holds("no word that LANGUAGE.md rules out" + (found ? ": " + m.group() : ""), !found);
        int classes = code.split("\\bclass\\b").length - 1;
        CHECK.holds("twelve classes at most", classes <= 12);
    }
}
