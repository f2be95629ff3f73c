import java.lang.reflect.Constructor;
import java.lang.reflect.Field;
import java.lang.reflect.Method;
import java.lang.reflect.Modifier;
import java.util.Arrays;
import java.util.Set;
import java.util.TreeSet;

/** Tests that the class has the face of the document, and no other member that is not private. */
public final class FaceTest {
    private static final String[] FACE = {
        "int BAD", "int STATE", "int FULL", "int NONE", "new()",
        "int type(int)", "int clearText()", "int load()", "int faultKind()", "int setStates(int)",
        "int addArc(int,int,int)", "int dropArc(int)", "int arc(int,int)", "int next(int,int)", "int split(int)",
        "int repair()", "int regions(boolean)", "int region(int,boolean)", "int crosses(int,int)",
        "int regionAround(int)", "int separations(int,boolean)", "int solver(int,int)", "int preventer(int,int)",
        "int unsolved(int)", "int places()", "int place(int,int)", "int netGraph(int)", "int fits()", "int enabled()",
        "int fire(int)", "int restart()", "int ifArc(int,int,int)", "int ifSplit(int)", "int undo()",
        "int count(int)", "long digest()",
    };

    private static String types(Class<?>[] types) {
        return "(" + String.join(",", Arrays.stream(types).map(Class::getSimpleName).toList()) + ")";
    }

    public static void main(String[] args) {
        Set<String> found = new TreeSet<>();
        int faults = 0;
        for (Field f : NetSynthesizer.class.getDeclaredFields()) {
            if (!Modifier.isPrivate(f.getModifiers())) {
                found.add(f.getType() + " " + f.getName());
                int wanted = Modifier.PUBLIC | Modifier.STATIC | Modifier.FINAL;
                faults += f.getModifiers() == wanted ? 0 : 1;
            }
        }
        for (Constructor<?> c : NetSynthesizer.class.getDeclaredConstructors()) {
            if (!Modifier.isPrivate(c.getModifiers())) {
                found.add("new" + types(c.getParameterTypes()));
                faults += c.getModifiers() == Modifier.PUBLIC ? 0 : 1;
            }
        }
        for (Method m : NetSynthesizer.class.getDeclaredMethods()) {
            if (!Modifier.isPrivate(m.getModifiers())) {
                found.add(m.getReturnType() + " " + m.getName() + types(m.getParameterTypes()));
                faults += m.getModifiers() == Modifier.PUBLIC ? 0 : 1;
            }
        }
        int all = Modifier.PUBLIC | Modifier.FINAL;
        faults += NetSynthesizer.class.getModifiers() == all ? 0 : 1;
        Set<String> due = new TreeSet<>(Arrays.asList(FACE));
        if (!found.equals(due) || faults != 0) {
            System.out.println("the face is " + found + "\ndue is " + due + "\nfaults: " + faults);
            System.exit(1);
        }
        System.out.println("the face is as due");
    }
}
