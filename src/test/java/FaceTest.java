import java.lang.reflect.Constructor;
import java.lang.reflect.Field;
import java.lang.reflect.Method;
import java.lang.reflect.Modifier;
import java.util.ArrayList;
import java.util.Arrays;
import java.util.Collections;
import java.util.List;

/** The public face is the one of the document, and nothing more can be seen of the class. */
public final class FaceTest {
    private static final String[] FACE = {
        "int append(int) IllegalArgumentException IllegalStateException",
        "int arm(int,int) IndexOutOfBoundsException IllegalArgumentException",
        "int begin(long)",
        "int bestRule(int) IllegalArgumentException",
        "int choice(int) IllegalArgumentException",
        "int clearBuffer()",
        "int count(int) IllegalArgumentException",
        "long digest()",
        "double evenness()",
        "int firstError()",
        "int gift(int,int,int) IndexOutOfBoundsException IllegalArgumentException",
        "int giftFor(int,int) IndexOutOfBoundsException",
        "long ifPlayed(int,int) IllegalArgumentException",
        "long index(int,int) IndexOutOfBoundsException",
        "int play(int,int) IllegalArgumentException IllegalStateException",
        "int pull(int) IndexOutOfBoundsException IllegalStateException",
        "int put(int,int) IndexOutOfBoundsException",
        "int read() IllegalArgumentException",
        "int set(int,int) IndexOutOfBoundsException IllegalArgumentException",
        "int setting(int) IndexOutOfBoundsException",
        "int stateOf(int,int,int) IndexOutOfBoundsException IllegalArgumentException",
        "long sum(int) IllegalArgumentException",
        "int undo() IllegalStateException",
        "int way(int,int,int,int,int) IndexOutOfBoundsException IllegalArgumentException"
    };

    private FaceTest() {
    }

    private static String row(Class<?>[] types) {
        StringBuilder row = new StringBuilder();
        for (Class<?> type : types) {
            row.append(row.length() == 0 ? "" : ",").append(type.getSimpleName());
        }
        return row.toString();
    }

    private static String told(Method method) {
        StringBuilder told = new StringBuilder();
        told.append(method.getReturnType().getSimpleName()).append(' ').append(method.getName());
        told.append('(').append(row(method.getParameterTypes())).append(')');
        for (Class<?> thrown : method.getExceptionTypes()) {
            told.append(' ').append(thrown.getSimpleName());
        }
        return told.toString();
    }

    private static void methods() {
        List<String> got = new ArrayList<>();
        List<String> open = new ArrayList<>();
        for (Method method : RestedArms.class.getDeclaredMethods()) {
            if (!Modifier.isPrivate(method.getModifiers()) && !method.isSynthetic()) {
                got.add(told(method));
                open.add(method.getName());
                Check.due(method + " is public and no static one", method.getModifiers(), Modifier.PUBLIC);
            }
        }
        List<String> want = new ArrayList<>(Arrays.asList(FACE));
        Collections.sort(got);
        Collections.sort(want);
        Check.due("the methods " + got, got.equals(want));
        for (Method method : RestedArms.class.getDeclaredMethods()) {
            if (Modifier.isPrivate(method.getModifiers())) {
                Check.due(method + " has a name of its own", !open.contains(method.getName()));
            }
        }
    }

    private static void fields() {
        for (Field field : RestedArms.class.getDeclaredFields()) {
            boolean constant = field.getName().equals("NONE");
            int open = Modifier.PUBLIC | Modifier.STATIC | Modifier.FINAL;
            Check.due(field + " is as it may be", constant ? field.getModifiers() == open
                    : Modifier.isPrivate(field.getModifiers()));
            Check.due(field + " is final", Modifier.isFinal(field.getModifiers()));
        }
    }

    public static void main(String[] args) {
        methods();
        fields();
        Constructor<?>[] constructors = RestedArms.class.getDeclaredConstructors();
        Check.due("constructors", constructors.length, 1);
        Check.due("the constructor is public", constructors[0].getModifiers(), Modifier.PUBLIC);
        Check.due("its parameters", constructors[0].getParameterCount(), 0);
        Check.due("the class", RestedArms.class.getModifiers(), Modifier.PUBLIC | Modifier.FINAL);
        Check.due("it has no package", RestedArms.class.getPackageName().isEmpty());
        for (Class<?> inside : RestedArms.class.getDeclaredClasses()) {
            Check.due(inside + " is static and not open", Modifier.isStatic(inside.getModifiers())
                    && !Modifier.isPublic(inside.getModifiers()) && !Modifier.isProtected(inside.getModifiers()));
        }
        Check.end();
    }
}
