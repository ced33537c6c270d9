import java.lang.reflect.Constructor;
import java.lang.reflect.Field;
import java.lang.reflect.Method;
import java.lang.reflect.Modifier;
import java.util.ArrayList;
import java.util.Arrays;
import java.util.List;
import java.util.stream.Collectors;
import java.util.stream.Stream;

/** The class has the document's face and no other member that can be seen. */
public final class FaceTest {
    private static final String[] FACE = {
        "int flow(boolean,int,boolean) IllegalArgumentException IllegalStateException",
        "void type(long,int) IllegalArgumentException IllegalStateException",
        "void equation(int) IllegalArgumentException",
        "int check()",
        "int fault(int) IllegalArgumentException",
        "int order(int) IllegalStateException NoSuchElementException",
        "void set(int,int) IllegalArgumentException",
        "void instants(int) IllegalArgumentException IllegalStateException",
        "int time()",
        "boolean present(int) IllegalArgumentException",
        "int value(int) IllegalArgumentException NoSuchElementException",
        "int seen(int) IllegalArgumentException",
        "int flows()",
    };

    public static void main(String[] args) {
        Class<?> desk = FlowDesk.class;
        Due.same("public and final", Modifier.PUBLIC | Modifier.FINAL, desk.getModifiers() & ~Modifier.SYNCHRONIZED);
        List<String> seen = new ArrayList<>();
        for (Method method : desk.getDeclaredMethods()) {
            if (!Modifier.isPrivate(method.getModifiers())) {
                seen.add(describe(method));
                Due.same(method.getName() + " is public", Modifier.PUBLIC, method.getModifiers());
            }
        }
        List<String> face = new ArrayList<>(Arrays.asList(FACE));
        seen.sort(null);
        face.sort(null);
        Due.same("the methods " + seen, 1, seen.equals(face) ? 1 : 0);
        for (Field field : desk.getDeclaredFields()) {
            Due.same(field.getName() + " is private", 1, Modifier.isPrivate(field.getModifiers()) ? 1 : 0);
        }
        Constructor<?>[] constructors = desk.getDeclaredConstructors();
        Due.same("one constructor", 1, constructors.length);
        Due.same("without parameters", 0, constructors[0].getParameterCount());
        Due.same("public", Modifier.PUBLIC, constructors[0].getModifiers());
        nested(desk);
        Due.end();
    }

    private static void nested(Class<?> desk) {
        List<String> names = Stream.of(FACE).map(line -> line.split("[ (]")[1]).collect(Collectors.toList());
        Class<?>[] inside = desk.getDeclaredClasses();
        Due.same("at most twelve classes", 1, inside.length < 12 ? 1 : 0);
        for (Class<?> one : inside) {
            int modifiers = one.getModifiers();
            Due.same(one + " is static", 1, Modifier.isStatic(modifiers) ? 1 : 0);
            Due.same(one + " is hidden", 0, modifiers & (Modifier.PUBLIC | Modifier.PROTECTED));
            for (Method method : one.getDeclaredMethods()) {
                Due.same(method + " has a name of its own", 0, names.contains(method.getName()) ? 1 : 0);
            }
        }
    }

    private static String describe(Method method) {
        String parameters = Stream.of(method.getParameterTypes()).map(Class::getSimpleName).collect(Collectors.joining(","));
        String thrown = Stream.of(method.getExceptionTypes()).map(e -> " " + e.getSimpleName()).collect(Collectors.joining());
        return method.getReturnType().getSimpleName() + " " + method.getName() + "(" + parameters + ")" + thrown;
    }
}
