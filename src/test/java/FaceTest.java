import java.lang.reflect.Constructor;
import java.lang.reflect.Field;
import java.lang.reflect.Method;
import java.lang.reflect.Modifier;
import java.util.Set;
import java.util.TreeSet;

/** The public face is the document's, and no more. */
public final class FaceTest {
    private static final Set<String> METHODS = Set.of(
            "int term(int,int,int)", "int clear()", "int degree(int)", "int freed(int,int)",
            "int value(int,int,int)", "int trace(int)", "int times(int)", "long coefficient(int,int,int)",
            "int side(int,int,int,int)", "int at(int,int,int,int,int)", "int follows(int,int)",
            "int touches(int,int)");
    private static int wrong = 0;

    public static void main(String[] args) {
        checkClass();
        checkMethods();
        checkFields();
        System.out.println(wrong == 0 ? "the face is as due" : wrong + " things are not as due");
        if (wrong != 0) {
            System.exit(1);
        }
    }

    private static void expect(boolean holds, String what) {
        if (!holds) {
            wrong++;
            System.out.println("not so: " + what);
        }
    }

    private static void checkClass() {
        int modifiers = EliminateLoci.class.getModifiers();
        expect(Modifier.isPublic(modifiers) && Modifier.isFinal(modifiers), "the class is public and final");
        Constructor<?>[] constructors = EliminateLoci.class.getDeclaredConstructors();
        expect(constructors.length == 1 && constructors[0].getParameterCount() == 0
                && Modifier.isPublic(constructors[0].getModifiers()), "one public constructor without arguments");
        for (Class<?> inside : EliminateLoci.class.getDeclaredClasses()) {
            int kind = inside.getModifiers();
            expect(Modifier.isStatic(kind) && !Modifier.isPublic(kind), inside.getName() + " is static, not public");
        }
    }

    private static void checkMethods() {
        Set<String> open = new TreeSet<>();
        Set<String> openNames = new TreeSet<>();
        Set<String> closedNames = new TreeSet<>();
        for (Method method : EliminateLoci.class.getDeclaredMethods()) {
            if (Modifier.isPublic(method.getModifiers())) {
                String text = method.toGenericString();
                open.add(text.replace("public ", "").replace("EliminateLoci.", ""));
                openNames.add(method.getName());
            } else {
                expect(Modifier.isPrivate(method.getModifiers()), method.getName() + " is public or private");
                closedNames.add(method.getName());
            }
        }
        expect(open.equals(METHODS), "the public methods are the document's: " + open);
        closedNames.retainAll(openNames);
        expect(closedNames.isEmpty(), "no private method bears a public one's name: " + closedNames);
    }

    private static void checkFields() {
        Set<String> open = new TreeSet<>();
        for (Field field : EliminateLoci.class.getDeclaredFields()) {
            int kind = field.getModifiers();
            if (Modifier.isPublic(kind)) {
                open.add(field.getName());
            } else {
                expect(Modifier.isPrivate(kind), field.getName() + " is private");
            }
            expect(!Modifier.isStatic(kind) || Modifier.isFinal(kind), field.getName() + ", if static, is final");
        }
        expect(open.equals(Set.of("BAD", "NO")), "the public constants are the document's: " + open);
    }
}
