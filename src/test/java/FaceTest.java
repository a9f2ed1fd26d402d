import java.io.IOException;
import java.lang.reflect.Constructor;
import java.lang.reflect.Field;
import java.lang.reflect.Method;
import java.lang.reflect.Modifier;
import java.nio.file.Files;
import java.nio.file.Path;
import java.util.Set;
import java.util.TreeSet;
import java.util.regex.Pattern;

/** The face of the class, and the rules of the language that can be seen without running it. */
public final class FaceTest {
    private static final Set<String> FACE = Set.of(
        "public static final int SceneTree.NONE",
        "public SceneTree()",
        "public int SceneTree.add(int,int)",
        "public void SceneTree.clear()",
        "public boolean SceneTree.set(int,int,int,int,int)",
        "public boolean SceneTree.hang(int,int)",
        "public boolean SceneTree.hide(int,boolean)",
        "public boolean SceneTree.camera(int,int,int,int)",
        "public int SceneTree.world(int,int,int) throws java.util.NoSuchElementException",
        "public int SceneTree.model(int,int,int) throws java.util.NoSuchElementException",
        "public int SceneTree.seen()",
        "public int SceneTree.inOrder(int)",
        "public int SceneTree.about(int,int) throws java.util.NoSuchElementException",
        "public int SceneTree.count()");

    private static final String[] NOT_IN_THE_SOURCE = {
        "->", "::", "\\bcatch\\b", "\\btry\\b", "\\bfinally\\b", "\\bassert\\b", "\\bsynchronized\\b", "\\bpackage\\b",
        "\\bstatic\\s*\\{", "\\bjava\\.(?!util\\.NoSuchElementException;)", "\\bSystem\\.(?!arraycopy\\b)", "Exact\\b",
    };

    public static void main(String[] args) throws IOException {
        Check.due("the class is public and final", SceneTree.class.getModifiers(), Modifier.PUBLIC | Modifier.FINAL);
        Check.due("the class has the document's face: " + visibleMembers(), visibleMembers().equals(FACE), true);
        privateNamesDiffer();
        staticFieldsAreFinal();
        sourceKeepsToTheLanguage();
        Check.finish("FaceTest");
    }

    private static Set<String> visibleMembers() {
        Set<String> visible = new TreeSet<>();
        for (Field field : SceneTree.class.getDeclaredFields()) {
            if (!Modifier.isPrivate(field.getModifiers())) {
                visible.add(field.toString());
            }
        }
        for (Constructor<?> constructor : SceneTree.class.getDeclaredConstructors()) {
            if (!Modifier.isPrivate(constructor.getModifiers())) {
                visible.add(constructor.toString());
            }
        }
        for (Method method : SceneTree.class.getDeclaredMethods()) {
            if (!Modifier.isPrivate(method.getModifiers())) {
                visible.add(method.toString());
            }
        }
        return visible;
    }

    private static void privateNamesDiffer() {
        Set<String> shown = new TreeSet<>();
        for (Method method : SceneTree.class.getMethods()) {
            shown.add(method.getName());
        }
        for (Method method : SceneTree.class.getDeclaredMethods()) {
            boolean isPrivate = Modifier.isPrivate(method.getModifiers());
            Check.due(method + " bears a public name", isPrivate && shown.contains(method.getName()), false);
        }
    }

    private static void staticFieldsAreFinal() {
        for (Field field : SceneTree.class.getDeclaredFields()) {
            boolean changes = Modifier.isStatic(field.getModifiers()) && !Modifier.isFinal(field.getModifiers());
            Check.due(field + " is static and not final", changes, false);
        }
    }

    private static void sourceKeepsToTheLanguage() throws IOException {
        String source = Files.readString(Path.of("src/main/java/SceneTree.java"));
        for (String not : NOT_IN_THE_SOURCE) {
            Check.due("the source has " + not, Pattern.compile(not).matcher(source).find(), false);
        }
    }
}
