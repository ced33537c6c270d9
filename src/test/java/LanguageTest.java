import java.io.IOException;
import java.lang.reflect.Array;
import java.lang.reflect.Executable;
import java.lang.reflect.Field;
import java.lang.reflect.Modifier;
import java.nio.file.Files;
import java.nio.file.Path;
import java.util.ArrayList;
import java.util.Collections;
import java.util.IdentityHashMap;
import java.util.List;
import java.util.Set;
import java.util.regex.Matcher;
import java.util.regex.Pattern;
import java.util.stream.Stream;

/** The rules of ../shared/LANGUAGE.md, as far as they can be seen in the source and the classes without judgement. */
public final class LanguageTest {
    private static final Path SOURCE = Path.of("src/main/java/FlowDesk.java");
    private static final int MOST_PARAMETERS = 7;
    private static final int MOST_LINES = 60;
    private static final int MOST_FIELDS = 20;
    private static final int CALLS = 512;
    /** Of one desk; some thousand desks then find room in 600,000 objects and 7.3 million fields and elements. */
    private static final int MOST_OBJECTS = 120;
    private static final int MOST_PLACES = 3000;

    /** What the rule leaves no place for, behind the rule's number. */
    private static final String[] RULED_OUT = {
        "1 \\bpackage\\b", "1 \\bprotected\\b", "2 ->", "2 ::", "3 \\[\\] *\\[\\] *\\[\\]", "3 \\b(Object|Long|Boolean|Map|Set)\\b",
        "4 \\w+Exact\\b", "4 Arrays\\.(?!fill\\b|copyOf\\b|copyOfRange\\b)", "4 System\\.(?!arraycopy\\b)", "5 \\bstatic *\\{",
        "6 \\b(finally|synchronized|assert|getMessage|hashCode|toString)\\b",
        "6 throw (?!new (IllegalState|IllegalArgument|NoSuchElement)Exception\\(\"\"\\))",
        "9 \\b(while *\\( *true|for *\\([^;]*; *;)", "13 \\b(Thread|Random|File|Path|nanoTime|currentTimeMillis|getenv)\\b",
    };

    public static void main(String[] args) throws IOException, IllegalAccessException {
        String source = Files.readString(SOURCE);
        Due.begin("The source");
        Due.holds("a character is beyond 255", source.chars().allMatch(one -> one < 256));
        readsWell(withoutCommentsAndTexts(source));
        for (Class<?> one : classes()) {
            isBuiltWell(one);
        }
        Due.begin("The room of a desk");
        doesNotGrow();
        Due.end();
    }

    private static String withoutCommentsAndTexts(String source) {
        return source.replaceAll("(?s)/\\*.*?\\*/", "").replaceAll("//[^\n]*", "").replaceAll("\"[^\"\n]*\"", "\"\"");
    }

    private static void readsWell(String code) {
        for (String ruled : RULED_OUT) {
            int blank = ruled.indexOf(' ');
            Matcher found = Pattern.compile(ruled.substring(blank + 1)).matcher(code);
            Due.holds("against rule " + ruled.substring(0, blank) + ": " + ruled.substring(blank + 1), !found.find());
        }
        Matcher imports = Pattern.compile("import ([^;]*);").matcher(code);
        while (imports.find()) {
            boolean allowed = imports.group(1).matches("java\\.util\\.(Arrays|ArrayList|List|Iterator|NoSuchElementException)");
            Due.holds("against rule 4: import " + imports.group(1), allowed);
        }
        Matcher bodies = Pattern.compile("(?ms)^( +)(?:public|private)[^;={}]*\\{$(.*?)^\\1\\}$").matcher(code);
        for (int from = 0; bodies.find(from); from = bodies.start(2)) {
            boolean isClass = bodies.group().contains(" class ");
            long lines = bodies.group().lines().count();
            Due.holds("against rule 11: " + lines + " lines from" + bodies.group().lines().findFirst(), isClass || lines <= MOST_LINES);
        }
    }

    private static List<Class<?>> classes() {
        List<Class<?>> all = new ArrayList<>(List.of(FlowDesk.class.getDeclaredClasses()));
        all.add(FlowDesk.class);
        return all;
    }

    private static void isBuiltWell(Class<?> one) {
        int fields = 0;
        for (Field field : one.getDeclaredFields()) {
            if (Modifier.isStatic(field.getModifiers())) {
                Due.holds("against rule 5: " + field, Modifier.isFinal(field.getModifiers()) && isConstant(field.getType()));
            } else {
                fields++;
            }
        }
        Due.holds("against rule 11: the fields of " + one, fields <= MOST_FIELDS);
        Stream.<Executable>concat(Stream.of(one.getDeclaredMethods()), Stream.of(one.getDeclaredConstructors()))
            .forEach(member -> Due.holds("against rule 11: " + member, member.getParameterCount() <= MOST_PARAMETERS));
    }

    private static boolean isConstant(Class<?> type) {
        Class<?> single = type.isArray() ? type.getComponentType() : type;
        return List.of(int.class, long.class, boolean.class, char.class, byte.class, String.class).contains(single);
    }

    /** Runs the dearest calls, and counts the desk and all that it holds before and behind. */
    private static void doesNotGrow() throws IllegalAccessException {
        FlowDesk desk = new FlowDesk();
        long[] made = room(desk);
        Due.holds(made[0] + " objects", made[0] <= MOST_OBJECTS);
        Due.holds(made[1] + " fields and elements", made[1] <= MOST_PLACES);
        int calls = 0;
        for (int flow = 0; flow < 12; flow++) {
            desk.flow(false, 0, false);
            calls++;
        }
        while (calls + 4 <= CALLS) {
            // FIRST (NUMBER 0) (ADD (BEFORE (FLOW ..)) ..)
            desk.type(0x0F_00_80_06_0E_03_00_00L | calls % 12 << 8, 8);
            desk.type(0x81, 1);
            desk.equation(calls / 4 % 12);
            calls += 3;
            if (desk.check() == 0 && calls + 2 <= CALLS) {
                desk.instants(50);
                calls++;
            }
            calls++;
        }
        long[] behind = room(desk);
        Due.same("the number of objects behind all calls", made[0], behind[0]);
        Due.same("the number of fields and elements behind all calls", made[1], behind[1]);
    }

    private static long[] room(FlowDesk desk) throws IllegalAccessException {
        Set<Object> met = Collections.newSetFromMap(new IdentityHashMap<>());
        List<Object> open = new ArrayList<>(List.of(desk));
        met.add(desk);
        long places = 0;
        for (int at = 0; at < open.size(); at++) {
            for (Object held : heldBy(open.get(at))) {
                places++;
                boolean isObject = held != null && !(held instanceof Number) && !(held instanceof Boolean);
                if (isObject && met.add(held)) {
                    open.add(held);
                }
            }
        }
        return new long[] {open.size(), places};
    }

    private static List<Object> heldBy(Object holder) throws IllegalAccessException {
        List<Object> held = new ArrayList<>();
        if (holder.getClass().isArray()) {
            for (int i = 0; i < Array.getLength(holder); i++) {
                held.add(Array.get(holder, i));
            }
            return held;
        }
        for (Field field : holder.getClass().getDeclaredFields()) {
            if (!Modifier.isStatic(field.getModifiers())) {
                field.setAccessible(true);
                held.add(field.get(holder));
            }
        }
        return held;
    }
}
