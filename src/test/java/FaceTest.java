import java.lang.reflect.Constructor;
import java.lang.reflect.Field;
import java.lang.reflect.Method;
import java.lang.reflect.Modifier;
import java.util.Set;
import java.util.TreeSet;

/** The public face is that of the document, and nothing else shows. */
public final class FaceTest {
    private static final String[] CALLS = {
        "addHirer/0", "hirer/2", "pay/2", "set/2", "hire/6", "clash/0", "hireInfo/2", "session/2", "cancel/1",
        "price/3", "taken/2", "firstFree/4", "inOrder/1", "pass/1", "count/1", "undo/0", "lend/2", "bringBack/1",
        "key/2", "report/2", "fault/3", "settle/1", "type/1", "clearText/0", "textFault/1", "enter/0"};
    private static final String[] CONSTANTS = {"INVALID_ARGUMENT", "NOT_POSSIBLE", "LIMIT_REACHED", "NOT_FOUND"};

    public static void main(String[] args) {
        Checks checks = new Checks("FaceTest");
        checks.due("INVALID_ARGUMENT", VillageHall.INVALID_ARGUMENT, -2000000001L);
        checks.due("NOT_POSSIBLE", VillageHall.NOT_POSSIBLE, -2000000002L);
        checks.due("LIMIT_REACHED", VillageHall.LIMIT_REACHED, -2000000003L);
        checks.due("NOT_FOUND", VillageHall.NOT_FOUND, -2000000004L);
        checks.due("modifiers of the class", VillageHall.class.getModifiers(), Modifier.PUBLIC | Modifier.FINAL);
        checks.isTrue("the calls are those of the document", visibleCalls(checks).equals(Set.of(CALLS)));
        checks.isTrue("the constants are those of the document", visibleConstants(checks).equals(Set.of(CONSTANTS)));
        Constructor<?>[] constructors = VillageHall.class.getDeclaredConstructors();
        checks.due("constructors", constructors.length, 1);
        checks.due("parameters of the constructor", constructors[0].getParameterCount(), 0);
        checks.isTrue("the constructor is public", Modifier.isPublic(constructors[0].getModifiers()));
        checkPrivateNames(checks);
        checks.end();
    }

    private static Set<String> visibleCalls(Checks checks) {
        Set<String> found = new TreeSet<>();
        for (Method method : VillageHall.class.getDeclaredMethods()) {
            if (!Modifier.isPrivate(method.getModifiers())) {
                found.add(method.getName() + "/" + method.getParameterCount());
                checks.isTrue(method.getName() + " is public", method.getModifiers() == Modifier.PUBLIC);
                checks.isTrue(method.getName() + " returns an int", method.getReturnType() == int.class);
                for (Class<?> type : method.getParameterTypes()) {
                    checks.isTrue(method.getName() + " takes ints", type == int.class);
                }
            }
        }
        return found;
    }

    private static Set<String> visibleConstants(Checks checks) {
        Set<String> found = new TreeSet<>();
        for (Field field : VillageHall.class.getDeclaredFields()) {
            if (!Modifier.isPrivate(field.getModifiers())) {
                found.add(field.getName());
                checks.isTrue(field.getName() + " is an int", field.getType() == int.class);
                checks.due("modifiers of " + field.getName(), field.getModifiers(),
                        Modifier.PUBLIC | Modifier.STATIC | Modifier.FINAL);
            }
        }
        return found;
    }

    private static void checkPrivateNames(Checks checks) {
        Set<String> names = new TreeSet<>();
        for (String call : CALLS) {
            names.add(call.substring(0, call.indexOf('/')));
        }
        for (Method method : VillageHall.class.getDeclaredMethods()) {
            checks.isTrue("the private " + method.getName() + " has a name of its own",
                    !Modifier.isPrivate(method.getModifiers()) || !names.contains(method.getName()));
        }
        for (Class<?> inside : VillageHall.class.getDeclaredClasses()) {
            checks.isTrue(inside.getName() + " is static", Modifier.isStatic(inside.getModifiers()));
            checks.isTrue(inside.getName() + " does not show", !Modifier.isPublic(inside.getModifiers())
                    && !Modifier.isProtected(inside.getModifiers()));
        }
    }
}
