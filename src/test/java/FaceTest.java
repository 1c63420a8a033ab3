import java.lang.reflect.Field;
import java.lang.reflect.Method;
import java.lang.reflect.Modifier;
import java.util.Arrays;
import java.util.Set;
import java.util.TreeSet;

/** The class has the document's face and no other, and its classes inside keep to the language's limits. */
public final class FaceTest {
    private static final String[] FACE = {
        "int reach(int,int,int,int)", "boolean dam(int,int) NoSuchElementException",
        "int gate(int,int) NoSuchElementException", "int melt(int,int) NoSuchElementException",
        "boolean boom(int,int,int) NoSuchElementException", "boolean watch(int,boolean) NoSuchElementException",
        "int crew(int,int) NoSuchElementException", "int feed(int,int,int,int,int)",
        "int law(int,int) IllegalArgumentException", "int fault()", "int cut(int,int,int)",
        "int let(int,int,int) NoSuchElementException", "int hours(int) IllegalArgumentException",
        "int order(int,int,int,int) NoSuchElementException", "int wants(int) NoSuchElementException",
        "int log(int,int) NoSuchElementException", "int cell(int,int,int) NoSuchElementException",
        "int inCell(int,int,int) NoSuchElementException", "int heap(int,int) NoSuchElementException",
        "int water(int,int) NoSuchElementException", "long waters(int) NoSuchElementException",
        "int board(int) NoSuchElementException", "long paid(int) NoSuchElementException",
        "int count(int) NoSuchElementException",
    };

    public static void main(String[] args) {
        Check.due("NONE", LogRiver.NONE, -1);
        Check.due("public and final", LogRiver.class.getModifiers(), Modifier.PUBLIC | Modifier.FINAL);
        Check.due("constructors", LogRiver.class.getDeclaredConstructors().length, 1);
        Check.due("public constructors", LogRiver.class.getConstructors().length, 1);
        methods();
        fields();
        classesInside();
        Check.finish();
    }

    private static void methods() {
        Set<String> seen = new TreeSet<>();
        Set<String> names = new TreeSet<>();
        for (Method m : LogRiver.class.getDeclaredMethods()) {
            if (Modifier.isPrivate(m.getModifiers())) {
                continue;
            }
            Check.due("static " + m.getName(), Modifier.isStatic(m.getModifiers()), false);
            seen.add(told(m));
            names.add(m.getName());
        }
        Check.due("the face", seen.toString(), new TreeSet<>(Arrays.asList(FACE)).toString());
        for (Method m : LogRiver.class.getDeclaredMethods()) {
            if (Modifier.isPrivate(m.getModifiers())) {
                Check.due("a private method bears a public name: " + m.getName(), names.contains(m.getName()), false);
            }
        }
    }

    private static String told(Method m) {
        StringBuilder text = new StringBuilder(m.getReturnType().getSimpleName()).append(' ').append(m.getName()).append('(');
        for (Class<?> type : m.getParameterTypes()) {
            text.append(text.charAt(text.length() - 1) == '(' ? "" : ",").append(type.getSimpleName());
        }
        text.append(')');
        for (Class<?> type : m.getExceptionTypes()) {
            text.append(' ').append(type.getSimpleName());
        }
        return text.toString();
    }

    private static void fields() {
        for (Field f : LogRiver.class.getDeclaredFields()) {
            boolean isFace = f.getName().equals("NONE");
            Check.due("private " + f.getName(), Modifier.isPrivate(f.getModifiers()), !isFace);
        }
    }

    private static void classesInside() {
        Class<?>[] inside = LogRiver.class.getDeclaredClasses();
        Check.due("at most twelve classes", inside.length + 1 <= 12, true);
        for (Class<?> c : inside) {
            Check.due("static " + c.getSimpleName(), Modifier.isStatic(c.getModifiers()), true);
            int ownFields = 0;
            for (Field f : c.getDeclaredFields()) {
                if (Modifier.isStatic(f.getModifiers())) {
                    Check.due("final " + f, Modifier.isFinal(f.getModifiers()), true);
                } else {
                    ownFields++;
                }
            }
            Check.due("at most twenty fields in " + c.getSimpleName(), ownFields <= 20, true);
        }
    }
}
