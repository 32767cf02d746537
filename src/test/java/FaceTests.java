import java.lang.reflect.Constructor;
import java.lang.reflect.Field;
import java.lang.reflect.Method;
import java.lang.reflect.Modifier;
import java.util.ArrayList;
import java.util.Collections;
import java.util.HashSet;
import java.util.List;
import java.util.Set;

/** The public face is that of the document, and there is nothing else to be seen from outside. */
public final class FaceTests {
    private static final String I = " IndexOutOfBoundsException";
    private static final String A = " IllegalArgumentException";
    private static final String S = " IllegalStateException";

    private static final String[] FACE = {
        "int broker(int,int,int)" + I + A + S,
        "int rate(int,int)" + I + A,
        "void trust(int,int,int,boolean)" + I + A,
        "boolean festival()",
        "int breakWord(int)" + I + S,
        "int raid(int)" + I + S,
        "int order(int,int,int,int,int)" + I + A + S,
        "int fetch(int,int)" + I + A + S,
        "int pass(int)" + A,
        "int pay(int,int,int)" + I + A + S,
        "int deliver(int,int,int)" + I + A + S,
        "int courier(int,int,int,int)" + I + A + S,
        "int rob(int)" + I + S,
        "long ring()",
        "int law(int,int)" + I + A,
        "boolean list(int)" + I,
        "long brokerOf(int,int)" + I + A,
        "long debt(int,int,boolean)" + I,
        "boolean agree(int,int)" + I,
        "int way(int,int,int,int)" + I + A,
        "int wayOf(int,int)" + I,
        "int orderOf(int,int)" + I + A,
        "int inquiry()",
        "long sum(int)" + A,
    };

    private static final String[] CONSTANTS = {
        "NONE=-1", "GOOD=0", "RAIDED=1", "BROKEN=2",
        "ON_ITS_WAY=0", "HERE=1", "PAID=2", "GOES_BACK=3", "BACK=4", "LOST=5",
    };

    public static void main(String[] args) throws IllegalAccessException {
        Check check = new Check();
        check.part("face");
        check.due("modifiers", HundiHall.class.getModifiers() & (Modifier.PUBLIC | Modifier.FINAL),
                Modifier.PUBLIC | Modifier.FINAL);
        check.due("methods", sorted(methods()), sorted(List.of(FACE)));
        check.due("constants", sorted(constants()), sorted(List.of(CONSTANTS)));
        check.due("constructors", constructors(), "public 0");
        check.due("others to be seen", others(), "");
        check.due("classes inside", classesInside(), "");
        check.end("FaceTests");
    }

    private static String sorted(List<String> rows) {
        List<String> copy = new ArrayList<>(rows);
        Collections.sort(copy);
        return String.join("; ", copy);
    }

    private static List<String> methods() {
        List<String> rows = new ArrayList<>();
        for (Method m : HundiHall.class.getDeclaredMethods()) {
            if (Modifier.isPublic(m.getModifiers())) {
                StringBuilder row = new StringBuilder(m.getReturnType().getSimpleName() + " " + m.getName() + "(");
                String comma = "";
                for (Class<?> type : m.getParameterTypes()) {
                    row.append(comma).append(type.getSimpleName());
                    comma = ",";
                }
                row.append(")");
                for (Class<?> type : m.getExceptionTypes()) {
                    row.append(" ").append(type.getSimpleName());
                }
                rows.add(row.toString());
            }
        }
        return rows;
    }

    private static List<String> constants() throws IllegalAccessException {
        List<String> rows = new ArrayList<>();
        for (Field f : HundiHall.class.getDeclaredFields()) {
            if (Modifier.isPublic(f.getModifiers()) && Modifier.isStatic(f.getModifiers())
                    && Modifier.isFinal(f.getModifiers()) && f.getType() == int.class) {
                rows.add(f.getName() + "=" + f.getInt(null));
            }
        }
        return rows;
    }

    private static String constructors() {
        StringBuilder all = new StringBuilder();
        for (Constructor<?> c : HundiHall.class.getDeclaredConstructors()) {
            all.append(Modifier.toString(c.getModifiers())).append(" ").append(c.getParameterCount());
        }
        return all.toString();
    }

    /** What is neither private nor of the face, private methods named like public ones, and static state. */
    private static String others() {
        StringBuilder all = new StringBuilder();
        Set<String> publicNames = new HashSet<>();
        for (Method m : HundiHall.class.getDeclaredMethods()) {
            if (Modifier.isPublic(m.getModifiers())) {
                publicNames.add(m.getName());
            }
        }
        for (Method m : HundiHall.class.getDeclaredMethods()) {
            boolean isPublic = Modifier.isPublic(m.getModifiers());
            if (!isPublic && (!Modifier.isPrivate(m.getModifiers()) || publicNames.contains(m.getName()))) {
                all.append(m.getName()).append(" ");
            }
        }
        for (Field f : HundiHall.class.getDeclaredFields()) {
            boolean isConstant = Modifier.isStatic(f.getModifiers()) && Modifier.isFinal(f.getModifiers());
            boolean isPrivate = Modifier.isPrivate(f.getModifiers());
            boolean isStaticState = Modifier.isStatic(f.getModifiers()) && !Modifier.isFinal(f.getModifiers());
            if (!isPrivate && !isConstant || isStaticState) {
                all.append(f.getName()).append(" ");
            }
        }
        return all.toString();
    }

    private static String classesInside() {
        StringBuilder all = new StringBuilder();
        for (Class<?> c : HundiHall.class.getDeclaredClasses()) {
            if (Modifier.isPublic(c.getModifiers()) || !Modifier.isStatic(c.getModifiers())) {
                all.append(c.getSimpleName()).append(" ");
            }
        }
        return all.toString();
    }
}
