import java.lang.reflect.Constructor;
import java.lang.reflect.Field;
import java.lang.reflect.Method;
import java.lang.reflect.Modifier;
import java.util.Arrays;
import java.util.Set;
import java.util.TreeSet;

/** The public face is the document's, and nothing else of the class can be seen. */
final class FaceTest {
    private static final String ARGUMENT = " throws java.lang.IllegalArgumentException";
    private static final String BOTH = ARGUMENT + ",java.lang.IllegalStateException";
    private static final String[] FACE = {
        "public int CallSums.car(int,int)" + BOTH,
        "public void CallSums.free(int,int,int)" + ARGUMENT,
        "public void CallSums.zone(int,int,int)" + ARGUMENT,
        "public boolean CallSums.sleep(int,boolean)" + ARGUMENT,
        "public int CallSums.call(int,int)" + BOTH,
        "public boolean CallSums.urgent(int,boolean)" + ARGUMENT,
        "public boolean CallSums.begin(int,int)" + ARGUMENT,
        "public void CallSums.done(int)" + ARGUMENT,
        "public int CallSums.pass(int)" + ARGUMENT,
        "public long CallSums.give()",
        "public int CallSums.carOf(int)" + ARGUMENT,
        "public int CallSums.turn(int,int)" + ARGUMENT,
        "public int CallSums.told(int,int)" + ARGUMENT,
        "public int CallSums.left()",
        "public int CallSums.cars(int)" + ARGUMENT,
        "public int CallSums.open()",
        "public int CallSums.weight(int)" + ARGUMENT,
        "public CallSums(int)",
        "public static final int CallSums.NONE",
    };

    public static void main(String[] args) {
        Checks checks = new Checks();
        Set<String> seen = new TreeSet<>();
        Set<String> publicNames = new TreeSet<>();
        for (Method method : CallSums.class.getDeclaredMethods()) {
            if (!Modifier.isPrivate(method.getModifiers()) && !method.isSynthetic()) {
                seen.add(method.toString());
                publicNames.add(method.getName());
            }
        }
        for (Method method : CallSums.class.getDeclaredMethods()) {
            if (Modifier.isPrivate(method.getModifiers())) {
                checks.due("private " + method.getName() + " bears a public name", publicNames.contains(method.getName()), false);
            }
        }
        for (Constructor<?> constructor : CallSums.class.getDeclaredConstructors()) {
            seen.add(constructor.toString());
        }
        for (Field field : CallSums.class.getDeclaredFields()) {
            if (!Modifier.isPrivate(field.getModifiers())) {
                seen.add(field.toString());
            }
        }
        Set<String> due = new TreeSet<>(Arrays.asList(FACE));
        Set<String> all = new TreeSet<>(due);
        all.addAll(seen);
        for (String member : all) {
            checks.due(member + " is seen", seen.contains(member), due.contains(member));
        }
        int wanted = Modifier.PUBLIC | Modifier.FINAL;
        checks.due("the class's modifiers", CallSums.class.getModifiers() & (wanted | Modifier.ABSTRACT), wanted);
        checks.end("FaceTest");
    }
}
