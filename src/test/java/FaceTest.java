import java.lang.reflect.Constructor;
import java.lang.reflect.Field;
import java.lang.reflect.Method;
import java.lang.reflect.Modifier;
import java.util.ArrayList;
import java.util.Collections;
import java.util.HashSet;
import java.util.List;
import java.util.Set;
import java.util.TreeSet;

/** The public face is the document's, with every throws clause in its order, and nothing else is seen outside. */
public final class FaceTest {
    private static final String I = " throws IndexOutOfBoundsException";
    private static final String A = " throws IllegalArgumentException";
    private static final String IS = I + " IllegalStateException";
    private static final String IA = I + " IllegalArgumentException";
    private static final String IAS = IA + " IllegalStateException";
    private static final String[] METHODS = {
        "void say(int,int,int)" + IAS, "void menu(int)" + IS, "int key(int,int,int)" + IAS,
        "void input(int,int,int,int)" + IAS, "void times(int,int,int,int,int)" + IAS,
        "void branch(int,int,int,int,int,int)" + IAS, "void sub(int,int,int)" + IS, "void back(int)" + IS,
        "void queue(int,int,int,int,int,int)" + IAS, "void leaving(int,int)" + IS, "void callback(int)" + IS,
        "void hours(int,int,int)" + A, "boolean holiday(int,boolean)" + A, "boolean isOpen()",
        "int call(int)" + IS, "int press(int,int)" + IAS, "int hang(int)" + IS, "int pick(int)" + IS,
        "int signOn(int,int)" + IAS, "int signOff(int)" + IS, "int wrap(int,int)" + IA, "int finish(int)" + IS,
        "int transfer(int,int)" + IS, "int pass(int)" + A + " IllegalStateException", "int calls()",
        "int state(int)" + I, "int end(int)" + I, "int nodeOf(int)" + I, "int numberOf(int)" + I,
        "int placeOf(int)" + I, "int placeByReplay(int)" + I, "int waiting(int)" + A, "int agent(int)" + I,
        "int callOf(int)" + I, "int ways(int,int)" + I, "int begun(int)" + I,
    };
    private static final String[] CONSTANTS = {
        "NONE=-1", "OPEN=0", "NUMBER=1", "WAITS=2", "DAY=3", "FREE=4",
        "IN_FLOW=0", "WAITING=1", "TALKING=2", "AWAY=3", "RINGING=4", "OVER=5",
        "ENDED=0", "HUNG=1", "LOOP=2", "DEEP=3", "DONE=4", "LOST=5",
        "OFF=0", "READY=1", "BUSY=2", "CALLING=3", "WRAPPING=4",
    };

    public static void main(String[] args) throws Exception {
        Due due = new Due("FaceTest");
        Class<?> face = Menuline.class;
        due.is("the class is public and final", face.getModifiers(), Modifier.PUBLIC | Modifier.FINAL);

        Constructor<?>[] made = face.getDeclaredConstructors();
        due.is("the number of constructors", made.length, 1);
        due.is("the constructor is public", made[0].getModifiers(), Modifier.PUBLIC);
        due.is("the constructor's parameters", made[0].getParameterCount(), 0);
        due.is("what the constructor throws", made[0].getExceptionTypes().length, 0);

        same(due, "methods", seenMethods(face), METHODS);
        same(due, "constants", seenFields(face), CONSTANTS);
        due.is("private methods with the name of a public one", namedTwice(face), 0);
        staticFieldsAreFinal(due, face);
        for (Class<?> inside : face.getDeclaredClasses()) {
            int kind = inside.getModifiers();
            due.is(inside + " is static", Modifier.isStatic(kind), true);
            due.is(inside + " is neither public nor protected",
                    Modifier.isPublic(kind) || Modifier.isProtected(kind), false);
            staticFieldsAreFinal(due, inside);
        }
        due.close();
    }

    private static List<String> seenMethods(Class<?> face) {
        List<String> seen = new ArrayList<>();
        for (Method method : face.getDeclaredMethods()) {
            if (Modifier.isPrivate(method.getModifiers())) {
                continue;
            }
            StringBuilder text = new StringBuilder();
            text.append(method.getModifiers() == Modifier.PUBLIC ? "" : "NOT PUBLIC ");
            text.append(method.getReturnType()).append(' ').append(method.getName()).append('(');
            for (Class<?> type : method.getParameterTypes()) {
                text.append(text.charAt(text.length() - 1) == '(' ? "" : ",").append(type);
            }
            text.append(')');
            String lead = " throws ";
            for (Class<?> type : method.getExceptionTypes()) {
                text.append(lead).append(type.getSimpleName());
                lead = " ";
            }
            seen.add(text.toString());
        }
        return seen;
    }

    private static List<String> seenFields(Class<?> face) throws IllegalAccessException {
        List<String> seen = new ArrayList<>();
        int constant = Modifier.PUBLIC | Modifier.STATIC | Modifier.FINAL;
        for (Field field : face.getDeclaredFields()) {
            if (Modifier.isPrivate(field.getModifiers())) {
                continue;
            }
            boolean plain = field.getModifiers() == constant && field.getType() == int.class;
            seen.add(plain ? field.getName() + "=" + field.getInt(null) : "NO CONSTANT " + field.getName());
        }
        return seen;
    }

    private static int namedTwice(Class<?> face) {
        Set<String> names = new HashSet<>();
        for (Method method : face.getMethods()) {
            names.add(method.getName());
        }
        int twice = 0;
        List<Class<?>> all = new ArrayList<>(List.of(face.getDeclaredClasses()));
        all.add(face);
        for (Class<?> one : all) {
            for (Method method : one.getDeclaredMethods()) {
                boolean own = one == face && Modifier.isPublic(method.getModifiers());
                twice += !own && names.contains(method.getName()) ? 1 : 0;
            }
        }
        return twice;
    }

    private static void staticFieldsAreFinal(Due due, Class<?> one) {
        for (Field field : one.getDeclaredFields()) {
            if (Modifier.isStatic(field.getModifiers())) {
                due.is(one + "." + field.getName() + " is final", Modifier.isFinal(field.getModifiers()), true);
            }
        }
    }

    private static void same(Due due, String what, List<String> seen, String[] wanted) {
        Set<String> missing = new TreeSet<>(List.of(wanted));
        missing.removeAll(seen);
        Set<String> added = new TreeSet<>(seen);
        added.removeAll(List.of(wanted));
        due.is("missing " + what + " " + missing, missing.size(), 0);
        due.is("added " + what + " " + added, added.size(), 0);
        Set<String> once = new HashSet<>();
        Collections.addAll(once, wanted);
        due.is("how many " + what, seen.size(), once.size());
    }
}
