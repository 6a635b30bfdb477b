import java.lang.reflect.Method;
import java.lang.reflect.Modifier;
import java.util.Arrays;
import java.util.List;
import java.util.StringJoiner;
import java.util.TreeSet;

/** The public face: exactly the members of the document, and the constants. */
public final class FaceTest {
    private static final String I = " throws IndexOutOfBoundsException";
    private static final String IA = I + ",IllegalArgumentException";
    private static final String IAS = IA + ",IllegalStateException";
    private static final List<String> FACE = List.of(
        "void addRoot(int,int,int)" + IAS, "int add(int,int,int,int,int)" + IAS, "int setLabel(int,int,int)" + IA,
        "void clear(int)" + I, "void swapTrees()", "void setPrices(int,int,int,int)" + IA,
        "int setMovePrice(int) throws IllegalArgumentException", "int nodes(int)" + I, "int parentOf(int,int)" + I,
        "int kindOf(int,int)" + I, "int labelOf(int,int)" + I, "int children(int,int)" + I,
        "int childAt(int,int,int)" + I, "int inPreorder(int,int)" + I, "int inPostorder(int,int)" + I,
        "int subtreeSize(int,int)" + I, "boolean isKeyroot(int,int)" + I, "int distance()", "int distanceByForests()",
        "int subtreeDistance(int,int)" + I, "int topDownDistance()", "double similarity()", "int pairs()",
        "int partnerOf(int)" + I, "boolean canBePaired(int,int)" + I, "int steps()", "int stepKind(int)" + I,
        "int stepNode(int)" + I, "int stepPrice(int)" + I, "int sizeAfter(int)" + I, "int labelAfter(int,int)" + I,
        "int depthAfter(int,int)" + I, "boolean areEqual(int,int)" + I, "int differentSubtrees()", "int moves()",
        "int movesTo(int)" + I, "int distanceWithMoves()");

    public static void main(String[] args) {
        TreeSet<String> names = new TreeSet<>();
        TreeSet<String> found = new TreeSet<>();
        for (Method method : TreeComparer.class.getDeclaredMethods()) {
            if (Modifier.isPublic(method.getModifiers())) {
                found.add(told(method));
                names.add(method.getName());
            }
        }
        Run.compare("face", "public methods", String.join("\n", found), String.join("\n", new TreeSet<>(FACE)));
        for (Method method : TreeComparer.class.getDeclaredMethods()) {
            boolean fine = Modifier.isPublic(method.getModifiers())
                || Modifier.isPrivate(method.getModifiers()) && !names.contains(method.getName());
            Run.compare("face", method + " is public or private with a name of its own", "" + fine, "true");
        }
        StringJoiner fields = new StringJoiner(" ");
        Arrays.stream(TreeComparer.class.getDeclaredFields()).filter(f -> !Modifier.isPrivate(f.getModifiers()))
            .forEach(f -> fields.add(Modifier.toString(f.getModifiers()) + " " + f.getName()));
        Run.compare("face", "fields", fields.toString(), "public static final NONE public static final DELETE "
            + "public static final RELABEL public static final INSERT");
        Run.compare("face", "class", Modifier.toString(TreeComparer.class.getModifiers()), "public final");
        Run.compare("face", "constructors", Arrays.toString(TreeComparer.class.getDeclaredConstructors()),
            "[public TreeComparer()]");
        Run.compare("face", "constants", TreeComparer.NONE + " " + TreeComparer.DELETE + " " + TreeComparer.RELABEL
            + " " + TreeComparer.INSERT, "-1 0 1 2");
        Run.end("FaceTest");
    }

    private static String told(Method method) {
        StringJoiner types = new StringJoiner(",");
        for (Class<?> type : method.getParameterTypes()) {
            types.add(type.getSimpleName());
        }
        StringJoiner thrown = new StringJoiner(",");
        for (Class<?> type : method.getExceptionTypes()) {
            thrown.add(type.getSimpleName());
        }
        return method.getReturnType().getSimpleName() + " " + method.getName() + "(" + types + ")"
            + (thrown.length() == 0 ? "" : " throws " + thrown);
    }
}
