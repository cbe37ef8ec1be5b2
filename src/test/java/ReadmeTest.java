import java.io.IOException;
import java.lang.reflect.Method;
import java.lang.reflect.Modifier;
import java.nio.file.Files;
import java.nio.file.Path;

/** README.md: its example answers as it says, and it tells every call; run from the project's root. */
public final class ReadmeTest {
    public static void main(String[] args) throws IOException {
        Due due = new Due();
        example(due);
        everyCall(due, Files.readString(Path.of("README.md")));
        due.end();
    }

    private static void example(Due due) {
        NightDots sky = new NightDots();
        due.is("dot", sky.dot(10, 100, 50, 1), 0);
        due.is("dot", sky.dot(12, 110, 46, 1), 1);
        due.is("dot", sky.dot(40, 250, -10, 2), 2);
        due.is("dot", sky.dot(44, 270, -18, 2), 3);
        int later = sky.dot(70, 400, -70, 3);
        int path = sky.start(0, 7);
        due.is("path", sky.path(path, 0), 7);
        due.is("heap", sky.heap(path), 9);
        due.is("ahead", sky.ahead(path, 70, 0), 390);
        due.is("tellOff", sky.tellOff(later), path);
        due.is("join", sky.join(path, later), 5);
        due.is("fit above", sky.fit(path, 0, 1, 0), 5);
        due.is("fit below", sky.fit(path, 0, 1, 1), 1);
        due.is("undo", sky.undo(), 1);
        due.is("the DOT is FREE again", sky.about(later, 5), NightDots.NONE);
    }

    private static void everyCall(Due due, String readme) {
        for (Method method : NightDots.class.getDeclaredMethods()) {
            if (Modifier.isPublic(method.getModifiers())) {
                due.isTrue("the table tells " + method.getName(), readme.contains("\n| `" + method.getName() + "("));
            }
        }
    }
}
