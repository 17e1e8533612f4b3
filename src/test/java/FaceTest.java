import java.lang.reflect.Constructor;
import java.lang.reflect.Executable;
import java.lang.reflect.Field;
import java.lang.reflect.Member;
import java.lang.reflect.Method;
import java.lang.reflect.Modifier;
import java.util.Set;
import java.util.TreeSet;

/** The class shows the face of the document and nothing more, and its classes inside keep to the language's rules. */
public final class FaceTest {
    private static final String[] FACE = {
        "public static final int REJECTED",
        "public DeadlineAdmission()",
        "public int propose(int,int,int,int,int,int) throws IllegalArgumentException,IllegalStateException",
        "public int proposeText() throws IllegalArgumentException,IllegalStateException",
        "public int appendCharacter(int) throws IllegalArgumentException,IllegalStateException",
        "public int faultPosition()",
        "public int withdraw(int) throws IndexOutOfBoundsException",
        "public int upgrade()",
        "public int setLevel(int,int) throws IndexOutOfBoundsException,IllegalArgumentException,IllegalStateException",
        "public int undo() throws IllegalStateException",
        "public int taskCount()",
        "public int scale()",
        "public int period(int) throws IndexOutOfBoundsException",
        "public int deadline(int) throws IndexOutOfBoundsException",
        "public int virtualDeadline(int) throws IndexOutOfBoundsException",
        "public int budget(int,int) throws IndexOutOfBoundsException,IllegalArgumentException,UnsupportedOperationException",
        "public int level(int) throws IndexOutOfBoundsException",
        "public boolean isCritical(int) throws IndexOutOfBoundsException",
        "public int demand(int,int) throws IllegalArgumentException",
        "public int slack(int) throws IllegalArgumentException",
        "public int tightest(int) throws IllegalArgumentException",
        "public boolean passes(int,int) throws IllegalArgumentException",
        "public int feasibleScales()",
        "public double utilization(int) throws IllegalArgumentException",
        "public long utilizationBits(int) throws IllegalArgumentException",
        "public float load(int) throws IllegalArgumentException",
        "public int loadBits(int) throws IllegalArgumentException",
        "public int descentLength()",
        "public int descentPoint(int) throws IndexOutOfBoundsException",
        "public int rejectionMode() throws NoSuchElementException",
        "public int rejectionLength() throws NoSuchElementException",
        "public int rejectionDemand() throws NoSuchElementException",
        "public int simulate(int,int,int) throws IllegalArgumentException",
        "public int completed() throws IllegalStateException",
        "public int dropped() throws IllegalStateException",
        "public int switches() throws IllegalStateException",
        "public int idleUnits() throws IllegalStateException",
        "public int response(int) throws IndexOutOfBoundsException,IllegalStateException,NoSuchElementException",
        "public void save()",
        "public int restore() throws IllegalStateException"
    };

    private static int wrong = 0;
    private static final Set<String> publicNames = new TreeSet<>();

    public static void main(String[] args) {
        Class<?> face = DeadlineAdmission.class;
        due("the class is public and final", Modifier.isPublic(face.getModifiers()) && Modifier.isFinal(face.getModifiers()));
        Set<String> shown = shownMembers(face);
        for (String member : FACE) {
            due("the face has " + member, shown.remove(member));
        }
        due("the face has nothing more than the document, but has " + shown, shown.isEmpty());
        privateNames(face);
        for (Class<?> inside : face.getDeclaredClasses()) {
            due(inside + " is static", Modifier.isStatic(inside.getModifiers()));
            due(inside + " is not public or protected", (inside.getModifiers() & (Modifier.PUBLIC | Modifier.PROTECTED)) == 0);
            privateNames(inside);
            staticFields(inside);
        }
        staticFields(face);
        System.out.println(wrong == 0 ? "the face is as the document's" : wrong + " faults of the face");
        if (wrong != 0) {
            System.exit(1);
        }
    }

    private static void due(String what, boolean holds) {
        if (!holds) {
            wrong++;
            System.out.println("not so: " + what);
        }
    }

    private static boolean shows(Member member) {
        return !Modifier.isPrivate(member.getModifiers()) && !member.isSynthetic();
    }

    private static String names(Class<?>[] types) {
        StringBuilder text = new StringBuilder();
        for (int k = 0; k < types.length; k++) {
            text.append(k > 0 ? "," : "").append(types[k].getSimpleName());
        }
        return text.toString();
    }

    /** Modifiers as written, so that a static, synchronized or missing one shows. */
    private static String signature(Executable call, String name) {
        String thrown = names(call.getExceptionTypes());
        return Modifier.toString(call.getModifiers()) + " " + name + "(" + names(call.getParameterTypes()) + ")"
            + (thrown.isEmpty() ? "" : " throws " + thrown);
    }

    private static Set<String> shownMembers(Class<?> face) {
        Set<String> shown = new TreeSet<>();
        for (Field field : face.getDeclaredFields()) {
            if (shows(field)) {
                shown.add(Modifier.toString(field.getModifiers()) + " " + field.getType().getName() + " " + field.getName());
            }
        }
        for (Constructor<?> constructor : face.getDeclaredConstructors()) {
            if (shows(constructor)) {
                shown.add(signature(constructor, "DeadlineAdmission"));
            }
        }
        for (Method method : face.getDeclaredMethods()) {
            if (shows(method)) {
                publicNames.add(method.getName());
                shown.add(signature(method, method.getReturnType().getName() + " " + method.getName()));
            }
        }
        return shown;
    }

    private static void privateNames(Class<?> type) {
        for (Method method : type.getDeclaredMethods()) {
            boolean ofTheFace = Modifier.isPublic(method.getModifiers());
            due(method + " has a name of its own", ofTheFace || !publicNames.contains(method.getName()));
            due(method + " has at most seven parameters", method.getParameterCount() <= 7);
        }
    }

    private static void staticFields(Class<?> type) {
        for (Field field : type.getDeclaredFields()) {
            if (Modifier.isStatic(field.getModifiers())) {
                due(field + " is final", Modifier.isFinal(field.getModifiers()));
            }
        }
    }
}
