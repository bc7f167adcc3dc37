import java.lang.reflect.Constructor;
import java.lang.reflect.Field;
import java.lang.reflect.Method;
import java.lang.reflect.Modifier;
import java.util.Set;
import java.util.TreeSet;

/** The face of the class is that of the document, and it hides all else. */
public final class FaceTest {
    private static final String[] FACE = {
        "int append(int,int,int,int,int) IllegalStateException",
        "int load()",
        "int play()",
        "int errorCode()",
        "int errorPosition()",
        "int find(boolean)",
        "int size(int) IllegalArgumentException",
        "int heading(int,int) IndexOutOfBoundsException IllegalArgumentException",
        "int letter(int,int) IndexOutOfBoundsException",
        "int number(int,int) IndexOutOfBoundsException",
        "int style(int,int) IndexOutOfBoundsException IllegalArgumentException",
        "int child(int,int) IndexOutOfBoundsException NoSuchElementException",
        "int common(int,int) IndexOutOfBoundsException",
        "int visible(int)",
        "int largest()",
        "int account(int) IllegalArgumentException",
        "float share()",
        "double meanLevel()",
        "int whyNot(int,int,int) IndexOutOfBoundsException IllegalArgumentException",
        "int changedBy(int,int,int) IndexOutOfBoundsException IllegalArgumentException",
        "int cheapest(int,int) IndexOutOfBoundsException",
        "int wouldHide(int) IndexOutOfBoundsException",
        "int insert(int,int,int) IndexOutOfBoundsException IllegalArgumentException",
        "int remove(int) IndexOutOfBoundsException",
        "int dissolve(int) IndexOutOfBoundsException",
        "int move(int,int,int) IndexOutOfBoundsException IllegalArgumentException",
        "int promote(int) IndexOutOfBoundsException",
        "int demote(int) IndexOutOfBoundsException",
        "int fold(int,boolean) IndexOutOfBoundsException",
        "int foldTo(int) IndexOutOfBoundsException",
        "int sort(int,int) IndexOutOfBoundsException IllegalArgumentException",
        "int setPlain(int,boolean) IndexOutOfBoundsException",
        "int setStyle(int,int,int) IndexOutOfBoundsException IllegalArgumentException",
        "int setMode(int,boolean,boolean) IndexOutOfBoundsException",
        "int write()",
        "int output(int) IndexOutOfBoundsException",
        "int undo() IllegalStateException",
        "int save(int) IndexOutOfBoundsException",
        "int restore(int) IndexOutOfBoundsException IllegalStateException"};

    private static int wrong = 0;

    private static void need(boolean good, String what) {
        if (!good) {
            wrong++;
            System.out.println(what);
        }
    }

    private static String told(Method m) {
        StringBuilder s = new StringBuilder(m.getReturnType().getSimpleName()).append(' ').append(m.getName()).append('(');
        for (Class<?> type : m.getParameterTypes()) {
            s.append(s.charAt(s.length() - 1) == '(' ? "" : ",").append(type.getSimpleName());
        }
        s.append(')');
        for (Class<?> type : m.getExceptionTypes()) {
            s.append(' ').append(type.getSimpleName());
        }
        return s.toString();
    }

    private static void needMethods(Class<?> keeper) {
        Set<String> due = new TreeSet<>(Set.of(FACE));
        Set<String> names = new TreeSet<>();
        for (Method m : keeper.getDeclaredMethods()) {
            if (!Modifier.isPrivate(m.getModifiers())) {
                need(Modifier.isPublic(m.getModifiers()) && !Modifier.isStatic(m.getModifiers()) && due.remove(told(m)), "not of the face: " + told(m));
                names.add(m.getName());
            }
        }
        need(due.isEmpty(), "missing: " + due);
        needHidden(keeper, names);
        for (Class<?> inner : keeper.getDeclaredClasses()) {
            need(Modifier.isStatic(inner.getModifiers()) && !Modifier.isPublic(inner.getModifiers()), "not hidden: " + inner);
            for (Method m : inner.getDeclaredMethods()) {
                need(!names.contains(m.getName()), "the name of a public method: " + inner + " " + m.getName());
            }
        }
    }

    private static void needHidden(Class<?> keeper, Set<String> names) {
        for (Method m : keeper.getDeclaredMethods()) {
            need(!Modifier.isPrivate(m.getModifiers()) || !names.contains(m.getName()), "the name of a public method: " + m.getName());
        }
    }

    private static void needFields(Class<?> keeper) throws IllegalAccessException {
        int fields = 0;
        for (Field f : keeper.getDeclaredFields()) {
            boolean isStatic = Modifier.isStatic(f.getModifiers());
            fields += isStatic ? 0 : 1;
            need(!isStatic || Modifier.isFinal(f.getModifiers()), "static, but not final: " + f.getName());
            need(Modifier.isPrivate(f.getModifiers()) || f.getName().equals("NONE"), "not hidden: " + f.getName());
        }
        need(fields <= 20, "more than 20 fields");
        need(OutlineKeeper.NONE == -1, "NONE is not -1");
    }

    public static void main(String[] args) throws IllegalAccessException {
        Class<?> keeper = OutlineKeeper.class;
        need(Modifier.isPublic(keeper.getModifiers()) && Modifier.isFinal(keeper.getModifiers()), "not public and final");
        Constructor<?>[] constructors = keeper.getDeclaredConstructors();
        need(constructors.length == 1 && constructors[0].getParameterCount() == 0 && Modifier.isPublic(constructors[0].getModifiers()), "not one public constructor");
        need(keeper.getDeclaredClasses().length <= 11, "more than twelve classes");
        needMethods(keeper);
        needFields(keeper);
        System.out.println(wrong == 0 ? "the face is as due" : wrong + " faults of the face");
        if (wrong != 0) {
            System.exit(1);
        }
    }
}
