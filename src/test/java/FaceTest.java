import java.lang.reflect.Constructor;
import java.lang.reflect.Field;
import java.lang.reflect.Method;
import java.lang.reflect.Modifier;
import java.util.ArrayList;
import java.util.Collections;
import java.util.List;

/** The public face: just the constants, constructor and methods of the document. */
public final class FaceTest {
    private static final String[] METHODS = {
        "row(int,int,int)", "set(int,int,int)", "copy(int,int,int,int,int)", "drop(int)",
        "feed(long,int)", "court()", "fault()", "hang(int,int)", "take(int)", "quarters(int)",
        "lay(int,int)", "piece(int,int)", "line(int,int)",
        "dry()", "plan(int,int)", "whose(int,int)", "sun(int,int)", "rings(int,int,int)",
        "rain(int,int)", "image(int)", "restore(int)",
        "kind(int)", "as(int,int)", "ask(int,int)", "trace(int)", "count(int)", "status()",
    };
    private static final String[] CONSTANTS = {"NONE", "BAD", "STATE", "FULL"};

    public static void main(String[] args) {
        Check check = new Check("FaceTest");
        check.that("the class is public and final",
                Modifier.isPublic(CourtWash.class.getModifiers()) && Modifier.isFinal(CourtWash.class.getModifiers()));
        check.same("methods", methods(), sorted(METHODS));
        check.same("constants", fields(), sorted(CONSTANTS));
        check.same("constructors", constructors(), "[0 public]");
        check.that("classes inside are static and not public", insideIsHidden());
        check.due("NONE", CourtWash.NONE, -1000000);
        check.due("BAD", CourtWash.BAD, -1000001);
        check.due("STATE", CourtWash.STATE, -1000002);
        check.due("FULL", CourtWash.FULL, -1000003);
        check.end();
    }

    private static String sorted(String[] names) {
        List<String> all = new ArrayList<>(List.of(names));
        Collections.sort(all);
        return all.toString();
    }

    private static String methods() {
        List<String> all = new ArrayList<>();
        for (Method m : CourtWash.class.getDeclaredMethods()) {
            if (Modifier.isPrivate(m.getModifiers())) {
                continue;
            }
            List<String> types = new ArrayList<>();
            for (Class<?> type : m.getParameterTypes()) {
                types.add(type.getName());
            }
            boolean plain = Modifier.isPublic(m.getModifiers()) && !Modifier.isStatic(m.getModifiers())
                    && m.getReturnType() == int.class;
            all.add((plain ? "" : "odd ") + m.getName() + "(" + String.join(",", types) + ")");
        }
        Collections.sort(all);
        return all.toString();
    }

    private static String fields() {
        List<String> all = new ArrayList<>();
        for (Field f : CourtWash.class.getDeclaredFields()) {
            if (!Modifier.isPrivate(f.getModifiers())) {
                all.add(f.getName());
            }
        }
        Collections.sort(all);
        return all.toString();
    }

    private static String constructors() {
        List<String> all = new ArrayList<>();
        for (Constructor<?> c : CourtWash.class.getDeclaredConstructors()) {
            all.add(c.getParameterCount() + (Modifier.isPublic(c.getModifiers()) ? " public" : " hidden"));
        }
        return all.toString();
    }

    private static boolean insideIsHidden() {
        for (Class<?> c : CourtWash.class.getDeclaredClasses()) {
            int m = c.getModifiers();
            if (!Modifier.isStatic(m) || Modifier.isPublic(m) || Modifier.isProtected(m)) {
                return false;
            }
        }
        return true;
    }
}
