import java.lang.reflect.Constructor;
import java.lang.reflect.Field;
import java.lang.reflect.Member;
import java.lang.reflect.Method;
import java.lang.reflect.Modifier;
import java.util.Set;
import java.util.TreeSet;

/** The class shows the face of the document and nothing more, and its classes inside keep to the language's rules. */
public final class FaceTest {
    private static final String[] FACE = {
        "static final int REJECTED", "DeadlineAdmission()",
        "int propose(int,int,int,int,int,int)", "int proposeText()", "int appendCharacter(int)", "int faultPosition()",
        "int withdraw(int)", "int upgrade()", "int setLevel(int,int)", "int undo()", "int taskCount()", "int scale()",
        "int period(int)", "int deadline(int)", "int virtualDeadline(int)", "int budget(int,int)", "int level(int)",
        "boolean isCritical(int)", "int demand(int,int)", "int slack(int)", "int tightest(int)",
        "boolean passes(int,int)", "int feasibleScales()", "double utilization(int)", "long utilizationBits(int)",
        "float load(int)", "int loadBits(int)", "int descentLength()", "int descentPoint(int)", "int rejectionMode()",
        "int rejectionLength()", "int rejectionDemand()", "int simulate(int,int,int)", "int completed()",
        "int dropped()", "int switches()", "int idleUnits()", "int response(int)", "void save()", "int restore()"
    };

    private static int wrong = 0;
    private static final Set<String> publicNames = new TreeSet<>();

    public static void main(String[] args) {
        Class<?> face = DeadlineAdmission.class;
        due("the class is public and final", Modifier.isPublic(face.getModifiers()) && Modifier.isFinal(face.getModifiers()));
        Set<String> shown = shownMembers(face);
        for (String member : FACE) {
            due("the face has " + member, shown.remove(member));
        }
        due("the face has nothing more than the document, but has " + shown, shown.isEmpty());
        privateNames(face);
        for (Class<?> inside : face.getDeclaredClasses()) {
            due(inside + " is static", Modifier.isStatic(inside.getModifiers()));
            due(inside + " is not public or protected", (inside.getModifiers() & (Modifier.PUBLIC | Modifier.PROTECTED)) == 0);
            privateNames(inside);
            staticFields(inside);
        }
        staticFields(face);
        System.out.println(wrong == 0 ? "the face is as the document's" : wrong + " faults of the face");
        if (wrong != 0) {
            System.exit(1);
        }
    }

    private static void due(String what, boolean holds) {
        if (!holds) {
            wrong++;
            System.out.println("not so: " + what);
        }
    }

    private static boolean shows(Member member) {
        return !Modifier.isPrivate(member.getModifiers()) && !member.isSynthetic();
    }

    private static String parameters(Class<?>[] types) {
        StringBuilder text = new StringBuilder("(");
        for (int k = 0; k < types.length; k++) {
            text.append(k > 0 ? "," : "").append(types[k].getName());
        }
        return text.append(")").toString();
    }

    private static Set<String> shownMembers(Class<?> face) {
        Set<String> shown = new TreeSet<>();
        for (Field field : face.getDeclaredFields()) {
            if (shows(field)) {
                due(field + " is public", Modifier.isPublic(field.getModifiers()));
                shown.add("static final " + field.getType().getName() + " " + field.getName());
            }
        }
        for (Constructor<?> constructor : face.getDeclaredConstructors()) {
            if (shows(constructor)) {
                shown.add("DeadlineAdmission" + parameters(constructor.getParameterTypes()));
            }
        }
        for (Method method : face.getDeclaredMethods()) {
            if (shows(method)) {
                due(method + " is public", Modifier.isPublic(method.getModifiers()));
                publicNames.add(method.getName());
                shown.add(method.getReturnType().getName() + " " + method.getName() + parameters(method.getParameterTypes()));
            }
        }
        return shown;
    }

    private static void privateNames(Class<?> type) {
        for (Method method : type.getDeclaredMethods()) {
            boolean ofTheFace = Modifier.isPublic(method.getModifiers());
            due(method + " has a name of its own", ofTheFace || !publicNames.contains(method.getName()));
            due(method + " has at most seven parameters", method.getParameterCount() <= 7);
        }
    }

    private static void staticFields(Class<?> type) {
        for (Field field : type.getDeclaredFields()) {
            if (Modifier.isStatic(field.getModifiers())) {
                due(field + " is final", Modifier.isFinal(field.getModifiers()));
            }
        }
    }
}
