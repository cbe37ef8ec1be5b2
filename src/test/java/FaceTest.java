import java.lang.reflect.Method;
import java.lang.reflect.Modifier;
import java.util.Arrays;
import java.util.List;
import java.util.TreeSet;

/** The public face: the constants, the constructor and the methods of the document, and no others. */
public final class FaceTest {
    private static final List<String> METHODS = List.of(
            "int dot(int, int, int, int)", "int pace(int)", "int net(int, int)", "int about(int, int)",
            "int bits()", "int bit(int, int)", "int pairs()", "int pair(int, int)", "int start(int, int)",
            "int single(int, int)", "int join(int, int)", "int joinBit(int, int)", "int force(int, int)",
            "int path(int, int)", "long heap(int)", "long ahead(int, int, int)", "int tellOff(int)",
            "long fit(int, int, int, int)", "long miss(int, int, int, int)", "int part(int)",
            "int same(int, int)", "int merge(int, int)", "int undo()", "int count(int)");

    public static void main(String[] args) {
        Due due = new Due();
        due.is("NONE", NightDots.NONE, -1);
        due.is("BAD", NightDots.BAD, -2);
        due.is("STATE", NightDots.STATE, -3);
        due.is("FULL", NightDots.FULL, -4);
        due.is("NO", NightDots.NO, Long.MIN_VALUE);
        Class<?> face = NightDots.class;
        due.isTrue("public and final", Modifier.isPublic(face.getModifiers()) && Modifier.isFinal(face.getModifiers()));
        due.is("constructors", face.getDeclaredConstructors().length, 1);
        due.is("public fields", face.getFields().length, 5);
        TreeSet<String> found = new TreeSet<>();
        for (Method method : face.getDeclaredMethods()) {
            if (Modifier.isPublic(method.getModifiers())) {
                String names = Arrays.stream(method.getParameterTypes()).map(Class::getName).toList().toString();
                found.add(method.getReturnType() + " " + method.getName() + "(" + names.substring(1, names.length() - 1) + ")");
            } else {
                due.isTrue(method + " is private", Modifier.isPrivate(method.getModifiers()));
            }
        }
        due.isTrue("methods " + found, found.equals(new TreeSet<>(METHODS)));
        due.end();
    }
}
