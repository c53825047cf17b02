import java.lang.reflect.Executable;
import java.lang.reflect.Field;
import java.lang.reflect.Member;
import java.lang.reflect.Method;
import java.lang.reflect.Modifier;
import java.util.Set;
import java.util.TreeSet;
import java.util.stream.Collectors;
import java.util.stream.Stream;

/** The public face, member by member, and nothing beside it that is not private. */
public final class FaceTest {
    private static final Set<String> FACE = Set.of(
        "public static final int NONE",
        "public FlowGuard()",
        "public void clear()",
        "public int rule(int,int,int) throws IllegalArgumentException,UnsupportedOperationException",
        "public boolean turn(int,boolean) throws IndexOutOfBoundsException",
        "public int length(int,int) throws IllegalArgumentException",
        "public int step(int,int,int) throws IllegalArgumentException,IndexOutOfBoundsException",
        "public int passed(int,int) throws IllegalArgumentException",
        "public int circle(int) throws IllegalArgumentException",
        "public int circles()",
        "public int cut(int,int) throws IllegalArgumentException",
        "public int cutRule(int,int,int) throws IllegalArgumentException",
        "public int left(int,int) throws IllegalArgumentException");

    public static void main(String[] args) {
        Due due = new Due();
        Class<?> face = FlowGuard.class;
        due.is("class", "public final", () -> Modifier.toString(face.getModifiers()));
        due.is("above it", Object.class, face::getSuperclass);
        due.is("interfaces", 0, () -> face.getInterfaces().length);
        due.is("face", new TreeSet<>(FACE), FaceTest::membersThatAreNotPrivate);
        due.is("private methods that bear a public one's name", Set.of(), FaceTest::namesUsedTwice);
        due.is("static fields that are not final", Set.of(), FaceTest::staticState);
        due.end();
    }

    private static Stream<Member> members() {
        Class<?> face = FlowGuard.class;
        Stream<Member> fields = Stream.of(face.getDeclaredFields());
        Stream<Member> methods = Stream.of(face.getDeclaredMethods());
        Stream<Member> constructors = Stream.of(face.getDeclaredConstructors());
        return Stream.concat(fields, Stream.concat(methods, constructors));
    }

    private static Set<String> membersThatAreNotPrivate() {
        return members().filter(m -> !Modifier.isPrivate(m.getModifiers()))
            .map(FaceTest::text).collect(Collectors.toCollection(TreeSet::new));
    }

    private static Set<String> namesUsedTwice() {
        Set<String> open = Stream.of(FlowGuard.class.getMethods()).map(Method::getName).collect(Collectors.toSet());
        return Stream.of(FlowGuard.class.getDeclaredMethods()).filter(m -> Modifier.isPrivate(m.getModifiers()))
            .map(Method::getName).filter(open::contains).collect(Collectors.toSet());
    }

    private static Set<String> staticState() {
        return Stream.of(FlowGuard.class.getDeclaredFields()).filter(f -> Modifier.isStatic(f.getModifiers()))
            .filter(f -> !Modifier.isFinal(f.getModifiers())).map(Field::getName).collect(Collectors.toSet());
    }

    private static String text(Member member) {
        String text = Modifier.toString(member.getModifiers());
        if (member instanceof Field field) {
            return text + " " + field.getType() + " " + field.getName();
        }
        if (member instanceof Method method) {
            text += " " + method.getReturnType();
        }
        if (member instanceof Executable call) {
            text += " " + call.getName() + "(" + names(call.getParameterTypes()) + ")";
            if (call.getExceptionTypes().length > 0) {
                text += " throws " + names(call.getExceptionTypes());
            }
        }
        return text;
    }

    private static String names(Class<?>[] types) {
        return Stream.of(types).map(Class::getSimpleName).collect(Collectors.joining(","));
    }
}
