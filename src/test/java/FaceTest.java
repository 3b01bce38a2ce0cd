import java.lang.reflect.Constructor;
import java.lang.reflect.Field;
import java.lang.reflect.Method;
import java.lang.reflect.Modifier;
import java.util.Arrays;
import java.util.TreeSet;

/** The face is the document's, and nothing of the class but it can be seen. */
public final class FaceTest {
    private static final String[] FACE = {"int begin(int, int) IAE", "int paint(int, int, int, int, int) IOOBE IAE",
        "int addLamp(int, int) IAE ISE", "int setCorner(int, int, int, int) IOOBE IAE",
        "int setRectangle(int, int, int, int, int) IOOBE IAE", "int setLamp(int, int, int) IOOBE IAE",
        "int setWorks(int, boolean) IOOBE", "int shift(int, int) IAE", "int burn(int) IAE",
        "int place(int, int, int) IOOBE IAE", "int light(int, int, int) IOOBE", "int weight(int, int, int) IOOBE",
        "int lamp(int, int) IOOBE IAE", "int corner(int, int, int) IOOBE IAE", "int whole(int) IAE",
        "int wrong(int) IAE", "int wrongWithout(int) IOOBE", "int dearestLamp()", "int wrongShifted(int, int) IAE",
        "int bestShift(int) IAE", "int neededLimit(int) IOOBE", "int type(int) IAE ISE", "int clearCommands()",
        "int runCommands()", "int undo() ISE", "long digest()"};

    private FaceTest() {
    }

    public static void main(String[] args) {
        TreeSet<String> seen = new TreeSet<>();
        TreeSet<String> hidden = new TreeSet<>();
        for (Method method : LampMural.class.getDeclaredMethods()) {
            if (Modifier.isPrivate(method.getModifiers())) {
                hidden.add(method.getName());
            } else if (!method.isSynthetic()) {
                seen.add(described(method));
                Check.due(method.getName() + " is public", method.getModifiers(), Modifier.PUBLIC);
            }
        }
        TreeSet<String> face = new TreeSet<>(Arrays.asList(FACE));
        Check.due("methods " + seen + " are the face's " + face, seen.equals(face) ? 1 : 0, 1);
        for (String line : FACE) {
            String name = line.substring(line.indexOf(' ') + 1, line.indexOf('('));
            Check.due("a private method has the name " + name, hidden.contains(name) ? 1 : 0, 0);
        }
        int fields = 0;
        for (Field field : LampMural.class.getDeclaredFields()) {
            fields += Modifier.isPrivate(field.getModifiers()) ? 0 : 1;
        }
        Check.due("fields that can be seen", fields, 1);
        Constructor<?>[] constructors = LampMural.class.getDeclaredConstructors();
        Check.due("constructors", constructors.length, 1);
        Check.due("the class", LampMural.class.getModifiers(), Modifier.PUBLIC | Modifier.FINAL);
        Check.end("FaceTest");
    }

    private static String described(Method method) {
        StringBuilder text = new StringBuilder();
        text.append(method.getReturnType().getName()).append(' ').append(method.getName()).append('(');
        String comma = "";
        for (Class<?> type : method.getParameterTypes()) {
            text.append(comma).append(type.getName());
            comma = ", ";
        }
        text.append(')');
        for (Class<?> type : method.getExceptionTypes()) {
            text.append(' ').append(type.getSimpleName().replaceAll("[a-z]", ""));
        }
        return text.toString();
    }
}
