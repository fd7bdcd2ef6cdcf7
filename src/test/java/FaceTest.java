import java.lang.reflect.Constructor;
import java.lang.reflect.Field;
import java.lang.reflect.Method;
import java.lang.reflect.Modifier;
import java.util.ArrayList;
import java.util.Collections;
import java.util.List;

/** The public face: just the members of the document, with its exceptions. */
public final class FaceTest {
    private static final Check check = new Check("FaceTest");

    private static final String INDEX = "IndexOutOfBoundsException ";
    private static final String ARGUMENT = "IllegalArgumentException ";
    private static final String DENIED = "UnsupportedOperationException ";
    private static final String STATE = "IllegalStateException ";
    private static final String NO_ELEMENT = "NoSuchElementException ";
    private static final String ARITHMETIC = "ArithmeticException ";

    private static final String[] FACE = {
        "int addSpan(int ) " + ARGUMENT + DENIED,
        "int removeLastSpan() " + DENIED,
        "int pour(int int ) " + INDEX + ARGUMENT + DENIED,
        "int mend(int int ) " + INDEX + ARGUMENT + DENIED,
        "int spanCount() ",
        "int jars(int ) " + INDEX,
        "int age(int ) " + INDEX,
        "int cracks(int ) " + INDEX,
        "int stress(int ) " + INDEX,
        "int strength(int ) " + INDEX,
        "int load(int ) " + INDEX,
        "boolean isStrained(int ) " + INDEX,
        "int hoursUntilBears(int int ) " + INDEX + ARGUMENT + NO_ELEMENT,
        "int hoursUntilBearsByDivision(int int ) " + INDEX + ARGUMENT + NO_ELEMENT,
        "int spanByStrength(int ) " + NO_ELEMENT,
        "int enter(int ) " + ARGUMENT + DENIED,
        "int pass(int ) " + ARGUMENT,
        "int setRate(int ) " + ARGUMENT + DENIED,
        "int vehicleCount() ",
        "int vehicleAt(int ) " + INDEX,
        "int weightOf(int ) " + NO_ELEMENT,
        "int spanOf(int ) " + NO_ELEMENT,
        "int tollOf(int ) " + NO_ELEMENT,
        "int hoursUntilOver(int ) " + NO_ELEMENT,
        "int totalLoad() ",
        "int totalLoadByVehicles() ",
        "int greatestWeight() ",
        "int hour() ",
        "int rate() ",
        "int till() ",
        "int paidTolls() ",
        "int crossed() ",
        "int sunk() ",
        "double meanStrength() " + ARITHMETIC,
        "float sunkShare() " + ARITHMETIC,
        "int feed(char ) " + STATE,
        "int execute() " + ARGUMENT + DENIED,
        "int faultPosition() " + NO_ELEMENT,
        "int writeSpan(int ) " + INDEX,
        "int writeBridge() ",
        "char lineCharacter(int ) " + INDEX,
        "int denial() " + NO_ELEMENT,
        "int denialDetail() " + NO_ELEMENT,
        "int denialCause() " + NO_ELEMENT,
        "int undo() " + STATE,
        "int undoCount() ",
        "int saveSnapshot() ",
        "int restoreSnapshot() " + STATE,
    };

    public static void main(String[] args) {
        List<String> due = new ArrayList<>(List.of(FACE));
        List<String> got = new ArrayList<>();
        for (Method method : JamBridge.class.getDeclaredMethods()) {
            if (!Modifier.isPrivate(method.getModifiers())) {
                got.add(told(method));
            }
        }
        Collections.sort(due);
        Collections.sort(got);
        check.same("methods", String.join("\n", got), String.join("\n", due));
        for (Field field : JamBridge.class.getDeclaredFields()) {
            check.yes(field + " is private", Modifier.isPrivate(field.getModifiers()));
        }
        Constructor<?>[] constructors = JamBridge.class.getDeclaredConstructors();
        check.same("constructors", constructors.length, 1);
        check.yes("the constructor is public", Modifier.isPublic(constructors[0].getModifiers()));
        check.same("its parameters", constructors[0].getParameterCount(), 0);
        check.same("the class", JamBridge.class.getModifiers(), Modifier.PUBLIC | Modifier.FINAL);
        check.end();
    }

    private static String told(Method method) {
        StringBuilder text = new StringBuilder(method.getReturnType().getSimpleName());
        text.append(' ').append(method.getName()).append('(');
        for (Class<?> type : method.getParameterTypes()) {
            text.append(type.getSimpleName()).append(' ');
        }
        text.append(") ");
        for (Class<?> type : method.getExceptionTypes()) {
            text.append(type.getSimpleName()).append(' ');
        }
        return text.toString();
    }
}
