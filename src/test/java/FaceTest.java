import java.lang.reflect.Constructor;
import java.lang.reflect.Field;
import java.lang.reflect.Method;
import java.lang.reflect.Modifier;
import java.util.Set;
import java.util.TreeSet;

/** The public face: all that the document lists, and nothing else that is not private. */
public final class FaceTest {
    private static final String[] METHODS = {
        "int line(int)", "int note(int,int,int,boolean)", "int mark(int,int,int,int,int)",
        "int wedge(int,int,int,int,int)", "int tie(int,int)", "int slur(int,int)", "int again()",
        "int curve(int,int)", "int part(int,int,int)", "int point(int,int,int,int)",
        "int candidate(int,int,int,int)", "long along(int,int,int,int)", "int within(int,int,int,int)",
        "int count(int)", "int clear()"
    };
    private static final int MOST_CLASSES = 12;
    private static final int MOST_FIELDS = 20;
    private static final Due due = new Due();

    public static void main(String[] args) {
        constants();
        due.is("methods are " + openMethods(), openMethods().equals(wantedMethods()) ? 1 : 0, 1);
        fields();
        constructors();
        sharedNames();
        classesInside();
        due.is("public and final", CurveTies.class.getModifiers(), Modifier.PUBLIC | Modifier.FINAL);
        due.end();
    }

    private static void constants() {
        due.is("UNKNOWN", CurveTies.UNKNOWN, -9001);
        due.is("OUTSIDE", CurveTies.OUTSIDE, -9002);
        due.is("STATE", CurveTies.STATE, -9003);
        due.is("ROOM", CurveTies.ROOM, -9004);
        due.is("NONE", CurveTies.NONE, -9005);
    }

    private static boolean isPrivate(int modifiers) {
        return Modifier.isPrivate(modifiers);
    }

    private static Set<String> wantedMethods() {
        return new TreeSet<>(Set.of(METHODS));
    }

    private static Set<String> openMethods() {
        Set<String> open = new TreeSet<>();
        for (Method method : CurveTies.class.getDeclaredMethods()) {
            if (!isPrivate(method.getModifiers())) {
                StringBuilder face = new StringBuilder();
                face.append(method.getReturnType()).append(' ').append(method.getName()).append('(');
                String comma = "";
                for (Class<?> type : method.getParameterTypes()) {
                    face.append(comma).append(type);
                    comma = ",";
                }
                open.add(face.append(')').toString());
                due.is(method.getName() + " is public", method.getModifiers(), Modifier.PUBLIC);
            }
        }
        return open;
    }

    private static void fields() {
        Set<String> constants = Set.of("UNKNOWN", "OUTSIDE", "STATE", "ROOM", "NONE");
        int open = 0;
        for (Field field : CurveTies.class.getDeclaredFields()) {
            if (!isPrivate(field.getModifiers())) {
                open++;
                due.is(field.getName() + " is of the document", constants.contains(field.getName()) ? 1 : 0, 1);
            }
            if (Modifier.isStatic(field.getModifiers())) {
                due.is(field.getName() + " is final", Modifier.isFinal(field.getModifiers()) ? 1 : 0, 1);
            }
        }
        due.is("constants", open, 5);
    }

    private static void constructors() {
        Constructor<?>[] all = CurveTies.class.getDeclaredConstructors();
        due.is("constructors", all.length, 1);
        due.is("its parameters", all[0].getParameterCount(), 0);
        due.is("it is public", all[0].getModifiers(), Modifier.PUBLIC);
    }

    private static void sharedNames() {
        Set<String> names = new TreeSet<>();
        for (String method : METHODS) {
            names.add(method.substring(method.indexOf(' ') + 1, method.indexOf('(')));
        }
        for (Method method : CurveTies.class.getDeclaredMethods()) {
            if (isPrivate(method.getModifiers())) {
                due.is("private " + method.getName() + " has a name of its own", names.contains(method.getName()) ? 0 : 1, 1);
            }
        }
    }

    private static void classesInside() {
        Class<?>[] inside = CurveTies.class.getDeclaredClasses();
        due.is("classes are few", inside.length < MOST_CLASSES ? 1 : 0, 1);
        fewFields(CurveTies.class);
        for (Class<?> own : inside) {
            due.is(own.getName() + " is static", Modifier.isStatic(own.getModifiers()) ? 1 : 0, 1);
            due.is(own.getName() + " is not open", own.getModifiers() & (Modifier.PUBLIC | Modifier.PROTECTED), 0);
            due.is(own.getName() + " has classes inside", own.getDeclaredClasses().length, 0);
            fewFields(own);
        }
    }

    private static void fewFields(Class<?> own) {
        int fields = 0;
        for (Field field : own.getDeclaredFields()) {
            if (!Modifier.isStatic(field.getModifiers())) {
                fields++;
            } else {
                due.is(own.getName() + "'s " + field.getName() + " is final", Modifier.isFinal(field.getModifiers()) ? 1 : 0, 1);
            }
        }
        due.is(own.getName() + " has few fields", fields <= MOST_FIELDS ? 1 : 0, 1);
    }
}
