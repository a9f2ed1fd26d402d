import java.lang.reflect.Constructor;
import java.lang.reflect.Field;
import java.lang.reflect.Method;
import java.lang.reflect.Modifier;
import java.util.Set;
import java.util.TreeSet;

/** The class has the document's face and nothing more that others can see. */
public final class FaceTest {
    private static final Set<String> FACE = Set.of(
        "public static final int SceneTree.NONE",
        "public SceneTree()",
        "public int SceneTree.add(int,int)",
        "public void SceneTree.clear()",
        "public boolean SceneTree.set(int,int,int,int,int)",
        "public boolean SceneTree.hang(int,int)",
        "public boolean SceneTree.hide(int,boolean)",
        "public boolean SceneTree.camera(int,int,int,int)",
        "public int SceneTree.world(int,int,int) throws java.util.NoSuchElementException",
        "public int SceneTree.model(int,int,int) throws java.util.NoSuchElementException",
        "public int SceneTree.seen()",
        "public int SceneTree.inOrder(int)",
        "public int SceneTree.about(int,int) throws java.util.NoSuchElementException",
        "public int SceneTree.count()");

    public static void main(String[] args) {
        Check.run("The public face", FaceTest.class);
    }

    @Sentence("public final class SceneTree {")
    static void theClassIsPublicAndFinal() {
        Check.due("its modifiers", SceneTree.class.getModifiers(), Modifier.PUBLIC | Modifier.FINAL);
        Check.due("it has no package", SceneTree.class.getPackageName().isEmpty(), true);
        Check.due("it has no class above it", SceneTree.class.getSuperclass() == Object.class, true);
        Check.due("its interfaces", SceneTree.class.getInterfaces().length, 0);
    }

    @Sentence("""
        public static final int NONE = -1;
        public SceneTree();
        public int add(int parent, int kind);
        public void clear();
        public boolean set(int node, int what, int x, int y, int z);
        public boolean hang(int node, int parent);
        public boolean hide(int node, boolean is);
        public boolean camera(int what, int x, int y, int z);
        public int world(int node, int i, int j) throws NoSuchElementException;
        public int model(int node, int i, int j) throws NoSuchElementException;
        public int seen();
        public int inOrder(int k);
        public int about(int node, int what) throws NoSuchElementException;
        public int count();
        """)
    static void allThatOthersCanSee() {
        Set<String> visible = visibleMembers();
        for (String member : FACE) {
            Check.due(member, visible.contains(member), true);
        }
        visible.removeAll(FACE);
        Check.due("members beyond the face: " + visible, visible.size(), 0);
    }

    private static Set<String> visibleMembers() {
        Set<String> visible = new TreeSet<>();
        for (Field field : SceneTree.class.getDeclaredFields()) {
            if (!Modifier.isPrivate(field.getModifiers())) {
                visible.add(field.toString());
            }
        }
        for (Constructor<?> constructor : SceneTree.class.getDeclaredConstructors()) {
            if (!Modifier.isPrivate(constructor.getModifiers())) {
                visible.add(constructor.toString());
            }
        }
        for (Method method : SceneTree.class.getDeclaredMethods()) {
            if (!Modifier.isPrivate(method.getModifiers())) {
                visible.add(method.toString());
            }
        }
        return visible;
    }
}
