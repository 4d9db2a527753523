import java.lang.reflect.Method;
import java.lang.reflect.Modifier;
import java.util.ArrayList;
import java.util.Collections;
import java.util.List;

/** The public face: just the members that the document names. */
final class FaceTest {
    private static final String[] METHODS = {
        "int back()", "int box(int,int,int,int,int)", "int bumps(int,int)", "int chance(int,int,int,int)",
        "int comes(int,int,int,int)", "int contact(int,int)", "int copy(int,int,int,int,int)",
        "int corner(int,int,int)", "int count(int)", "int fails(int)", "int feed(int,int,int,int,int,int)",
        "int film(int)", "int free()", "int hands(int,int)", "int image()", "int kind(int,int,int)",
        "int lies(int)", "int load(int)", "int most(int)", "int of(int,int)", "int off(int)", "int on(int,int)",
        "int order(int)", "int put(int,int,int)", "int sheet(int,int,int)", "int spot(int,int,int)",
        "int stands(int)", "int taken(int,int)", "int tells(int,int)", "int text()", "int tilt(int,int)",
        "int way(int)", "int weigh(int,int,int)", "int without(int)", "long centre(int,int,int)",
    };

    private FaceTest() { }

    static void run() {
        Check.due("NONE", PileSteadier.NONE, -1);
        Check.due("BAD", PileSteadier.BAD, -2);
        Check.due("STATE", PileSteadier.STATE, -3);
        Check.due("FULL", PileSteadier.FULL, -4);
        Check.due("NO", PileSteadier.NO, Long.MIN_VALUE);
        Class<?> face = PileSteadier.class;
        Check.holds("public and final", face.getModifiers() == (Modifier.PUBLIC | Modifier.FINAL));
        List<String> found = new ArrayList<>();
        for (Method m : face.getDeclaredMethods()) {
            if (Modifier.isPrivate(m.getModifiers())) continue;
            found.add(signature(m));
        }
        Collections.sort(found);
        Check.holds("methods: " + found, found.equals(List.of(METHODS)));
        long fields = 0;
        for (var f : face.getDeclaredFields()) {
            if (!Modifier.isPrivate(f.getModifiers())) fields++;
        }
        Check.due("fields of the face", fields, 5);
        Check.due("constructors", face.getDeclaredConstructors().length, 1);
    }

    private static String signature(Method m) {
        StringBuilder s = new StringBuilder();
        s.append(m.getReturnType().getName()).append(' ').append(m.getName()).append('(');
        String between = "";
        for (Class<?> p : m.getParameterTypes()) {
            s.append(between).append(p.getName());
            between = ",";
        }
        return s.append(')').toString();
    }
}
