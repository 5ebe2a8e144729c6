import java.lang.reflect.Constructor;
import java.lang.reflect.Field;
import java.lang.reflect.Method;
import java.lang.reflect.Modifier;
import java.util.Arrays;
import java.util.HashSet;
import java.util.List;
import java.util.NoSuchElementException;
import java.util.Set;
import java.util.TreeSet;

/** The face of the document, no member more, and the rules of the language that can be seen in the class. */
public final class LocksBySongFaceTest {
    private static final String[] FACE = {
        "int sign(int)", "boolean end(int)", "int locks()", "int singers()", "int barges()", "int rule()",
        "int lock(int,int)", "int singer(int,int)", "int barge(int,int)", "int set(int,int)", "int sheet(int,int,int,int)",
        "int hire(int,int)", "int leave(int)", "int pass(int,int)", "int rest(int)", "int day()", "int undo()",
        "int sings(int,int)", "int lacks(int,int)", "int spoils(int,int)", "int shift(int,int)", "int voices(int,int)",
        "int journey(int,int)", "int hires(int,int)", "int rested(int,int)", "int queue(int)", "int jams()",
        "int heard(int,int)", "int forget()", "int who()", "int listen()", "int parts()", "int opens(int,int)",
        "int tries(int,int)", "int rests(int)", "int pays(int,int)", "int days(int,int)", "boolean keep(int)",
        "boolean again(int)", "int count(int)", "long row(int)"};
    private static int wrong = 0;

    public static void main(String[] args) {
        Class<?> face = LocksBySong.class;
        check(Modifier.isPublic(face.getModifiers()) && Modifier.isFinal(face.getModifiers()), "public and final");
        checkMethods(face);
        checkFields(face);
        Constructor<?>[] made = face.getDeclaredConstructors();
        check(made.length == 1 && Modifier.isPublic(made[0].getModifiers()) && made[0].getParameterCount() == 0, "one constructor");
        check(face.getDeclaredClasses().length <= 12, "at most some twelve classes");
        for (Class<?> inside : face.getDeclaredClasses()) {
            checkInside(face, inside);
        }
        System.out.println(wrong == 0 ? "the face is as due" : wrong + " faults of the face");
        if (wrong != 0) {
            System.exit(1);
        }
    }

    private static void check(boolean fine, String what) {
        if (!fine) {
            wrong++;
            System.out.println("not so: " + what);
        }
    }

    private static String told(Method m) {
        StringBuilder b = new StringBuilder(m.getReturnType() + " " + m.getName() + "(");
        for (int i = 0; i < m.getParameterCount(); i++) {
            b.append(i > 0 ? "," : "").append(m.getParameterTypes()[i]);
        }
        return b.append(')').toString();
    }

    private static void checkMethods(Class<?> face) {
        Set<String> open = new TreeSet<>();
        Set<String> names = new HashSet<>();
        for (Method m : face.getDeclaredMethods()) {
            if (Modifier.isPublic(m.getModifiers())) {
                open.add(told(m));
                names.add(m.getName());
                boolean throwing = List.of("lock", "singer", "barge", "row").contains(m.getName());
                List<Class<?>> due = throwing ? List.of(NoSuchElementException.class) : List.of();
                check(Arrays.asList(m.getExceptionTypes()).equals(due), "what " + m.getName() + " says it throws");
            }
        }
        check(open.equals(new TreeSet<>(Arrays.asList(FACE))), "the methods of the document: " + open);
        for (Method m : face.getDeclaredMethods()) {
            boolean hidden = Modifier.isPrivate(m.getModifiers());
            check(hidden || Modifier.isPublic(m.getModifiers()), m + " is private or of the document");
            check(!hidden || !names.contains(m.getName()), m + " has a name of its own");
            check(m.getParameterCount() <= 7, m + " takes at most seven");
        }
    }

    private static void checkFields(Class<?> face) {
        int many = 0;
        for (Field f : face.getDeclaredFields()) {
            boolean constant = Modifier.isStatic(f.getModifiers());
            check(f.getName().equals("NONE") ? Modifier.isPublic(f.getModifiers()) : Modifier.isPrivate(f.getModifiers()), f + " is hidden");
            check(!constant || Modifier.isFinal(f.getModifiers()), f + " is final");
            many += constant ? 0 : 1;
        }
        check(many <= 20, "at most some twenty fields: " + many);
        check(LocksBySong.NONE == -1, "NONE");
    }

    private static void checkInside(Class<?> face, Class<?> inside) {
        check(Modifier.isStatic(inside.getModifiers()), inside + " is static");
        check(!Modifier.isPublic(inside.getModifiers()) && !Modifier.isProtected(inside.getModifiers()), inside + " is hidden");
        Set<String> names = new HashSet<>();
        for (Method m : face.getMethods()) {
            if (m.getDeclaringClass() == face) {
                names.add(m.getName());
            }
        }
        for (Method m : inside.getDeclaredMethods()) {
            check(!names.contains(m.getName()), m + " has a name of its own");
        }
        int many = 0;
        for (Field f : inside.getDeclaredFields()) {
            boolean constant = Modifier.isStatic(f.getModifiers());
            check(!constant || Modifier.isFinal(f.getModifiers()), f + " is final");
            many += constant ? 0 : 1;
        }
        check(many <= 20, inside + " has at most some twenty fields");
    }
}
