import java.lang.reflect.Constructor;
import java.lang.reflect.Field;
import java.lang.reflect.Method;
import java.lang.reflect.Modifier;
import java.util.Set;
import java.util.TreeSet;

/** The public face and promise 1, and that nothing else can be seen from outside. */
public final class FaceTest {
    private static final Set<String> METHODS = Set.of(
            "unit(int,int)", "fail(int)", "repair(int)", "unitInfo(int,int)", "shared(int)", "setCleaning(int)",
            "recipe(int)", "versions(int)", "phase(int,int,int,int)",
            "batch(int,int,int,int)", "start(int)", "hold(int)", "restart(int)", "stop(int)", "abort(int)",
            "priority(int,int)", "batchInfo(int,int)", "waits(int)", "inOrder(int)",
            "run(int)", "ticksTo(int)", "count(int)", "event(int,int)", "undo()",
            "type(int)", "clearText()", "fault(int)");
    private static final Set<String> CONSTANTS =
            Set.of("INVALID_ARGUMENT", "NOT_POSSIBLE", "LIMIT_REACHED", "NOT_FOUND");

    public static void main(String[] args) {
        Due due = new Due("FaceTest");
        constants(due);
        members(due);
        newObject(due);
        due.end();
    }

    private static void constants(Due due) {
        due.is("INVALID_ARGUMENT", BatchExecutive.INVALID_ARGUMENT, -1);
        due.is("NOT_POSSIBLE", BatchExecutive.NOT_POSSIBLE, -2);
        due.is("LIMIT_REACHED", BatchExecutive.LIMIT_REACHED, -3);
        due.is("NOT_FOUND", BatchExecutive.NOT_FOUND, -4);
    }

    private static void members(Due due) {
        Class<?> face = BatchExecutive.class;
        due.holds("the class is public and final",
                Modifier.isPublic(face.getModifiers()) && Modifier.isFinal(face.getModifiers()));
        Set<String> names = new TreeSet<>();
        for (String method : METHODS) {
            names.add(method.substring(0, method.indexOf('(')));
        }
        Set<String> found = new TreeSet<>();
        for (Method method : face.getDeclaredMethods()) {
            if (Modifier.isPrivate(method.getModifiers())) {
                due.holds("private " + method.getName() + " has a name of its own", !names.contains(method.getName()));
            } else {
                found.add(signature(method));
                due.holds(method + " is public and answers an int",
                        Modifier.isPublic(method.getModifiers()) && method.getReturnType() == int.class);
            }
        }
        due.holds("the methods are those of the document: " + found, found.equals(METHODS));
        for (Field field : face.getDeclaredFields()) {
            due.holds(field + " is private or a constant of the document",
                    Modifier.isPrivate(field.getModifiers()) || CONSTANTS.contains(field.getName()));
        }
        Constructor<?>[] constructors = face.getConstructors();
        due.holds("one public constructor without parameters",
                constructors.length == 1 && constructors[0].getParameterCount() == 0);
    }

    private static String signature(Method method) {
        StringBuilder text = new StringBuilder(method.getName()).append('(');
        for (Class<?> type : method.getParameterTypes()) {
            text.append(text.charAt(text.length() - 1) == '(' ? "" : ",").append(type.getName());
        }
        return text.append(')').toString();
    }

    /** Promise 1. */
    private static void newObject(Due due) {
        BatchExecutive x = new BatchExecutive();
        for (int what = 0; what <= 17; what++) {
            due.is("count(" + what + ") of a new one", x.count(what), what == 12 ? 2 : what == 17 ? 3 : 0);
        }
        for (int recipe = 0; recipe <= 5; recipe++) {
            due.is("versions(" + recipe + ") of a new one", x.versions(recipe), 0);
        }
        for (int piece = 0; piece <= 2; piece++) {
            due.is("shared(" + piece + ") of a new one", x.shared(piece), -4);
        }
        due.is("unitInfo(0, 0) of a new one", x.unitInfo(0, 0), -1);
        due.is("batchInfo(0, 0) of a new one", x.batchInfo(0, 0), -1);
        due.is("inOrder(0) of a new one", x.inOrder(0), -4);
        due.is("event(0, 0) of a new one", x.event(0, 0), -4);
        due.is("undo() of a new one", x.undo(), -2);
        due.is("fault(0) of a new one", x.fault(0), 0);
        due.is("fault(1) of a new one", x.fault(1), 3);
    }
}
