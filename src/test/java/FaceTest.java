import java.lang.reflect.Constructor;
import java.lang.reflect.Field;
import java.lang.reflect.Method;
import java.lang.reflect.Modifier;
import java.util.Set;
import java.util.TreeSet;

/** The public face: exactly the members that the document names, and the constants. */
public final class FaceTest {
    private static final String[] METHODS = {
        "configure(3)", "nameCount(0)", "processCount(0)", "step(1)", "crash(1)", "append(1)",
        "clearText(0)", "runText(0)", "status(1)", "splitterOf(1)", "phaseOf(1)", "stepsOf(1)",
        "soloSteps(1)", "soloName(1)", "owner(1)", "door(1)", "entered(1)", "left(2)",
        "explore(0)", "finalCount(0)", "violationCount(0)", "violationStep(1)",
        "greatestDepth(0)", "greatestName(0)", "outcomeCount(0)", "finalsWith(2)", "undo(0)",
        "save(1)", "restore(1)",
    };
    private static final String[] CONSTANTS = {
        "INVALID_ARGUMENT", "ILLEGAL_STATE", "CAPACITY_EXCEEDED", "NONE",
    };

    public static void main(String[] args) {
        Due due = new Due("FaceTest");
        due.is("INVALID_ARGUMENT", RenamingGrid.INVALID_ARGUMENT, -1);
        due.is("ILLEGAL_STATE", RenamingGrid.ILLEGAL_STATE, -2);
        due.is("CAPACITY_EXCEEDED", RenamingGrid.CAPACITY_EXCEEDED, -3);
        due.is("NONE", RenamingGrid.NONE, -9);
        due.holds("the class is public and final",
                Modifier.isPublic(RenamingGrid.class.getModifiers())
                && Modifier.isFinal(RenamingGrid.class.getModifiers()));
        methodsAreThose(due);
        fieldsAreThose(due);
        constructorIsThat(due);
        due.end();
    }

    private static void methodsAreThose(Due due) {
        Set<String> wanted = new TreeSet<>(Set.of(METHODS));
        Set<String> names = new TreeSet<>();
        for (String method : METHODS) {
            names.add(method.substring(0, method.indexOf('(')));
        }
        Set<String> seen = new TreeSet<>();
        for (Method method : RenamingGrid.class.getDeclaredMethods()) {
            if (Modifier.isPrivate(method.getModifiers())) {
                due.holds("no private method is named " + method.getName(),
                        !names.contains(method.getName()));
                continue;
            }
            boolean plain = Modifier.isPublic(method.getModifiers())
                    && !Modifier.isStatic(method.getModifiers())
                    && method.getReturnType() == int.class;
            due.holds(method + " is public and answers an int", plain);
            for (Class<?> type : method.getParameterTypes()) {
                due.holds(method + " takes ints", type == int.class);
            }
            seen.add(method.getName() + "(" + method.getParameterCount() + ")");
        }
        due.holds("the methods are " + wanted + ", not " + seen, wanted.equals(seen));
    }

    private static void fieldsAreThose(Due due) {
        Set<String> seen = new TreeSet<>();
        for (Field field : RenamingGrid.class.getDeclaredFields()) {
            if (!Modifier.isPrivate(field.getModifiers())) {
                seen.add(field.getName());
            }
        }
        due.holds("the constants are the only open fields: " + seen,
                seen.equals(new TreeSet<>(Set.of(CONSTANTS))));
    }

    private static void constructorIsThat(Due due) {
        Constructor<?>[] constructors = RenamingGrid.class.getDeclaredConstructors();
        due.is("constructors", constructors.length, 1);
        due.holds("it is public and takes nothing", constructors.length == 1
                && Modifier.isPublic(constructors[0].getModifiers())
                && constructors[0].getParameterCount() == 0);
    }
}
