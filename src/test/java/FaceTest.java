import java.lang.reflect.Constructor;
import java.lang.reflect.Field;
import java.lang.reflect.Method;
import java.lang.reflect.Modifier;
import java.util.ArrayList;
import java.util.Arrays;
import java.util.List;
import java.util.stream.Collectors;
import java.util.stream.Stream;

/** The class has the document's face and no other member that can be seen. */
public final class FaceTest {
    private static final String[] FACE = {
        "int flow(boolean,int,boolean) IllegalArgumentException IllegalStateException",
        "void type(long,int) IllegalArgumentException IllegalStateException",
        "void equation(int) IllegalArgumentException",
        "int check()",
        "int fault(int) IllegalArgumentException",
        "int order(int) IllegalStateException NoSuchElementException",
        "void set(int,int) IllegalArgumentException",
        "void instants(int) IllegalArgumentException IllegalStateException",
        "int time()",
        "boolean present(int) IllegalArgumentException",
        "int value(int) IllegalArgumentException NoSuchElementException",
        "int seen(int) IllegalArgumentException",
        "int flows()",
    };

    public static void main(String[] args) {
        Class<?> desk = FlowDesk.class;
        Due.begin("The public face");
        Due.same("the modifiers of the class", Modifier.PUBLIC | Modifier.FINAL, desk.getModifiers());
        List<String> seen = new ArrayList<>();
        for (Method method : desk.getDeclaredMethods()) {
            if (!Modifier.isPrivate(method.getModifiers())) {
                seen.add(describe(method));
                Due.same("the modifiers of " + method.getName(), Modifier.PUBLIC, method.getModifiers());
            }
        }
        List<String> face = new ArrayList<>(Arrays.asList(FACE));
        seen.sort(null);
        face.sort(null);
        Due.holds("the methods are " + seen, seen.equals(face));
        for (Field field : desk.getDeclaredFields()) {
            Due.holds(field.getName() + " is not private", Modifier.isPrivate(field.getModifiers()));
        }
        Constructor<?>[] constructors = desk.getDeclaredConstructors();
        Due.same("the number of constructors", 1, constructors.length);
        Due.same("the number of its parameters", 0, constructors[0].getParameterCount());
        Due.same("its modifiers", Modifier.PUBLIC, constructors[0].getModifiers());
        nested(desk);
        Due.end();
    }

    private static void nested(Class<?> desk) {
        List<String> names = Stream.of(FACE).map(line -> line.split("[ (]")[1]).collect(Collectors.toList());
        Class<?>[] inside = desk.getDeclaredClasses();
        Due.holds("there are more than twelve classes", inside.length < 12);
        for (Class<?> one : inside) {
            int modifiers = one.getModifiers();
            Due.holds(one + " is not static", Modifier.isStatic(modifiers));
            Due.holds(one + " can be seen", (modifiers & (Modifier.PUBLIC | Modifier.PROTECTED)) == 0);
            for (Method method : one.getDeclaredMethods()) {
                boolean taken = Modifier.isPrivate(method.getModifiers()) && names.contains(method.getName());
                Due.holds(method + " bears the name of a public method", !taken);
            }
        }
    }

    private static String describe(Method method) {
        String parameters = Stream.of(method.getParameterTypes()).map(Class::getSimpleName).collect(Collectors.joining(","));
        String thrown = Stream.of(method.getExceptionTypes()).map(e -> " " + e.getSimpleName()).collect(Collectors.joining());
        return method.getReturnType().getSimpleName() + " " + method.getName() + "(" + parameters + ")" + thrown;
    }
}
