import java.lang.reflect.Constructor;
import java.lang.reflect.Field;
import java.lang.reflect.Method;
import java.lang.reflect.Modifier;
import java.util.Set;
import java.util.TreeSet;

/** The public face, whole and alone, and promise 1: a new object. */
final class FaceTest {
    private static final String[] METHODS = {
        "int type(long, int)", "int clear()", "int town()", "int house(int, int)", "int shows(int, int)",
        "int first(int, int, int)", "int many(int, int)", "int there(int, int, int)", "int early(int, int, int)",
        "int go(int)", "int turn(int, int)", "int undo()", "int errand(int, int, int, int)", "int rests()",
        "int soonest(int, int)", "int party(int)", "int treaty(int, int, int)", "int saw(int, int)", "int forget()",
        "int whose(int)", "int aged(int, int, int)", "int owes(int, int, int)", "int due(int)", "int mark(int, int)",
        "int keep(int)", "int back(int)", "int count(int)", "long trace()"
    };
    private static final Expect expect = new Expect("FaceTest");

    public static void main(String[] args) {
        constants();
        members();
        newObject();
        expect.end();
    }

    private static void constants() {
        expect.due("BAD", HouseHours.BAD, -1);
        expect.due("STATE", HouseHours.STATE, -2);
        expect.due("FULL", HouseHours.FULL, -3);
        expect.due("NONE", HouseHours.NONE, -9);
        expect.due("NO", HouseHours.NO, -1000000);
    }

    private static void members() {
        expect.due("final", HouseHours.class.getModifiers() & Modifier.FINAL, Modifier.FINAL);
        Set<String> open = new TreeSet<>();
        Set<String> closed = new TreeSet<>();
        for (Method method : HouseHours.class.getDeclaredMethods()) {
            if (Modifier.isPrivate(method.getModifiers())) {
                closed.add(method.getName());
            } else {
                open.add(signature(method));
            }
        }
        expect.due("methods " + open, open.equals(Set.of(METHODS)) ? 1 : 0, 1);
        for (String face : METHODS) {
            String name = face.substring(face.indexOf(' ') + 1, face.indexOf('('));
            expect.due("a private " + name, closed.contains(name) ? 1 : 0, 0);
        }
        int fields = 0;
        for (Field field : HouseHours.class.getDeclaredFields()) {
            fields += Modifier.isPrivate(field.getModifiers()) ? 0 : 1;
        }
        expect.due("fields", fields, 5);
        Constructor<?>[] constructors = HouseHours.class.getDeclaredConstructors();
        expect.due("constructors", constructors.length, 1);
        expect.due("its parameters", constructors[0].getParameterCount(), 0);
        expect.due("it is public", constructors[0].getModifiers(), Modifier.PUBLIC);
    }

    private static String signature(Method method) {
        StringBuilder text = new StringBuilder();
        for (Class<?> type : method.getParameterTypes()) {
            text.append(text.length() == 0 ? "" : ", ").append(type.getName());
        }
        return method.getReturnType().getName() + " " + method.getName() + "(" + text + ")";
    }

    private static void newObject() {
        HouseHours x = new HouseHours();
        int[] counts = {0, 1, 0, 0, 0, 0, 0, 0};
        for (int what = 0; what < counts.length; what++) {
            expect.due("count(" + what + ")", x.count(what), counts[what]);
        }
        expect.due("trace()", x.trace(), 0);
        expect.due("shows(0, 0)", x.shows(0, 0), HouseHours.BAD);
        expect.due("undo()", x.undo(), HouseHours.STATE);
        expect.due("back(0)", x.back(0), HouseHours.STATE);
        expect.due("back(1)", x.back(1), HouseHours.STATE);
        expect.due("go(95)", x.go(95), 95);
        expect.due("party(-1)", x.party(-1), HouseHours.NONE);
        expect.due("due(-1)", x.due(-1), 0);
        HouseHours other = new HouseHours();
        expect.due("NOW of another one", other.count(2), 0);
    }
}
