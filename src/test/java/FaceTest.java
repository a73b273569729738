import java.lang.reflect.Constructor;
import java.lang.reflect.Field;
import java.lang.reflect.Method;
import java.lang.reflect.Modifier;
import java.util.Set;
import java.util.TreeSet;

/** The public face is the document's, and there is nothing beside it. */
public final class FaceTest {
    private static final String[] METHODS = {
        "set(int,int)", "part(int,int,int)", "takeAway(int)", "hoop(int)", "roll(int)", "tap(int)", "push()",
        "of(int,int)", "ofHoop(int)", "run(int,int)", "count(int)", "ifRolled(int)", "widest()", "saves(int)",
        "traced(int,int,int)", "put(long)", "wipe()", "fault()", "carryOut()", "undo()", "save(int)", "restore(int)"};
    private static final String[] CONSTANTS = {
        "NO_SUCH", "BAD_VALUE", "BAD_TEXT", "TOO_MANY", "NOT_POSSIBLE", "NONE", "TIP", "SHAKE", "DRAG", "TAP"};
    private static final int[] VALUES = {-1, -2, -3, -4, -5, -6, 0, 1, 2, 3};

    public static void main(String[] args) throws ReflectiveOperationException {
        Class<?> face = HoopStairs.class;
        Check.holds("public final", Modifier.isPublic(face.getModifiers()) && Modifier.isFinal(face.getModifiers()));
        Set<String> open = openMethods(face);
        Check.holds("the methods " + open, open.equals(new TreeSet<>(Set.of(METHODS))));
        for (int i = 0; i < CONSTANTS.length; i++) {
            Check.due(CONSTANTS[i], face.getField(CONSTANTS[i]).getInt(null), VALUES[i]);
        }
        fieldsAreClosed(face);
        Constructor<?>[] makers = face.getDeclaredConstructors();
        Check.due("constructors", makers.length, 1);
        Check.holds("a public one without arguments",
            Modifier.isPublic(makers[0].getModifiers()) && makers[0].getParameterCount() == 0);
        classesInside(face);
        Check.end();
    }

    private static Set<String> openMethods(Class<?> face) {
        Set<String> open = new TreeSet<>();
        for (Method method : face.getDeclaredMethods()) {
            if (!Modifier.isPrivate(method.getModifiers())) {
                StringBuilder told = new StringBuilder(method.getName()).append('(');
                for (Class<?> type : method.getParameterTypes()) {
                    told.append(told.charAt(told.length() - 1) == '(' ? "" : ",").append(type.getName());
                }
                open.add(told.append(')').toString());
                Check.holds(method.getName() + " answers an int", method.getReturnType() == int.class);
            }
        }
        return open;
    }

    private static void fieldsAreClosed(Class<?> face) {
        int open = 0;
        for (Field field : face.getDeclaredFields()) {
            int is = field.getModifiers();
            open += Modifier.isPrivate(is) ? 0 : 1;
            Check.holds(field.getName() + " is final if static", !Modifier.isStatic(is) || Modifier.isFinal(is));
        }
        Check.due("fields that are not private", open, CONSTANTS.length);
    }

    private static void classesInside(Class<?> face) {
        Set<String> publicNames = new TreeSet<>();
        for (String method : METHODS) {
            publicNames.add(method.substring(0, method.indexOf('(')));
        }
        Class<?>[] inside = face.getDeclaredClasses();
        Check.holds("at most some twelve classes", inside.length <= 12);
        for (Class<?> one : inside) {
            int is = one.getModifiers();
            Check.holds(one + " is static and not public", Modifier.isStatic(is) && !Modifier.isPublic(is));
            Check.holds(one + " has at most some twenty fields", one.getDeclaredFields().length <= 30);
            for (Method method : one.getDeclaredMethods()) {
                Check.holds(one + "." + method.getName() + " bears no public name",
                    !publicNames.contains(method.getName()));
            }
            for (Field field : one.getDeclaredFields()) {
                int kind = field.getModifiers();
                Check.holds(field + " is final if static", !Modifier.isStatic(kind) || Modifier.isFinal(kind));
            }
        }
        for (Method method : face.getDeclaredMethods()) {
            Check.holds(method.getName() + " is public or bears no public name",
                Modifier.isPublic(method.getModifiers()) || !publicNames.contains(method.getName()));
        }
    }
}
