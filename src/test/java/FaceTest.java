import java.lang.reflect.Constructor;
import java.lang.reflect.Field;
import java.lang.reflect.Method;
import java.lang.reflect.Modifier;
import java.util.ArrayList;
import java.util.Arrays;
import java.util.List;
import java.util.TreeSet;

/** The public face is the document's, with the same exceptions in the same order, and nothing more. */
public final class FaceTest {
    private static final String ARGUMENT = "IllegalArgumentException";
    private static final String STATE = "IllegalStateException";
    private static final String INDEX = "IndexOutOfBoundsException";
    private static final String ELEMENT = "NoSuchElementException";

    private static final String[] FACE = {
        "int insertLeft 3 " + ARGUMENT + " " + STATE,
        "int deleteLeft 3 " + ARGUMENT + " " + STATE + " " + ELEMENT,
        "int insertRight 2 " + ARGUMENT + " " + STATE,
        "int deleteRight 2 " + ARGUMENT + " " + STATE + " " + ELEMENT,
        "int batchSize 0",
        "int discard 0",
        "int apply 0",
        "int rollback 0 " + STATE,
        "int leftCount 3 " + ARGUMENT,
        "int rightCount 2 " + ARGUMENT,
        "int leftSize 0",
        "int rightSize 0",
        "int joinSize 0",
        "int joinDistinct 0",
        "int joinCount 3",
        "int joinRow 2 " + INDEX,
        "int danglingCount 0",
        "int danglingRow 2 " + INDEX,
        "int groupSize 1 " + INDEX,
        "int groupSum 1 " + INDEX,
        "int groupMinimum 1 " + INDEX + " " + ELEMENT,
        "int groupMaximum 1 " + INDEX + " " + ELEMENT,
        "int groupDistinct 1 " + INDEX,
        "int groupElement 2 " + INDEX + " " + ELEMENT,
        "double groupAverage 1 " + INDEX + " " + ELEMENT,
        "int qualifiedGroups 1",
        "int rankedGroup 1 " + INDEX,
        "int changeCount 0",
        "int changeRow 2 " + INDEX,
        "int watch 2 " + INDEX + " " + STATE,
        "boolean isRaised 1 " + INDEX,
        "int changedWatches 0",
        "int clearWatches 0",
        "int appendCharacter 1 " + ARGUMENT + " " + STATE,
        "int setFilter 0 " + ARGUMENT,
        "int faultPosition 0",
        "void clearFilter 0",
        "boolean accepts 4 " + ARGUMENT,
        "void save 0",
        "void restore 0 " + STATE,
    };

    private static final List<String> faults = new ArrayList<>();

    public static void main(String[] args) {
        publicMembers();
        hiddenMembers();
        faults.forEach(System.out::println);
        System.out.println(FACE.length + " methods of the face, " + faults.size() + " faults");
        if (!faults.isEmpty()) {
            System.exit(1);
        }
    }

    private static void publicMembers() {
        TreeSet<String> got = new TreeSet<>();
        for (Method method : ViewMaintainer.class.getDeclaredMethods()) {
            if (Modifier.isPublic(method.getModifiers())) {
                got.add(told(method));
            }
        }
        TreeSet<String> want = new TreeSet<>(Arrays.asList(FACE));
        if (!got.equals(want)) {
            faults.add("the face is " + got + ", due is " + want);
        }
        Constructor<?>[] constructors = ViewMaintainer.class.getDeclaredConstructors();
        if (constructors.length != 1 || constructors[0].getParameterCount() != 0
                || !Modifier.isPublic(constructors[0].getModifiers())) {
            faults.add("there is not just the one public constructor");
        }
        int modifiers = ViewMaintainer.class.getModifiers();
        if (!Modifier.isPublic(modifiers) || !Modifier.isFinal(modifiers)) {
            faults.add("the class is not public and final");
        }
    }

    private static String told(Method method) {
        StringBuilder text = new StringBuilder(method.getReturnType().getName());
        text.append(' ').append(method.getName()).append(' ').append(method.getParameterCount());
        for (Class<?> type : method.getParameterTypes()) {
            text.append(type == int.class ? "" : " not int");
        }
        for (Class<?> type : method.getExceptionTypes()) {
            text.append(' ').append(type.getSimpleName());
        }
        return text.toString();
    }

    /** Rules 1 and 5 of the language: what is not of the face is private, and static state is final. */
    private static void hiddenMembers() {
        TreeSet<String> names = new TreeSet<>();
        for (String line : FACE) {
            names.add(line.split(" ")[1]);
        }
        for (Method method : ViewMaintainer.class.getDeclaredMethods()) {
            int modifiers = method.getModifiers();
            if (!Modifier.isPublic(modifiers) && !Modifier.isPrivate(modifiers)) {
                faults.add("a method is seen in the package: " + method);
            }
            if (Modifier.isPrivate(modifiers) && names.contains(method.getName())) {
                faults.add("a private method bears a public name: " + method);
            }
        }
        fieldsOf(ViewMaintainer.class, true);
        for (Class<?> inside : ViewMaintainer.class.getDeclaredClasses()) {
            int modifiers = inside.getModifiers();
            if (!Modifier.isStatic(modifiers) || Modifier.isPublic(modifiers) || Modifier.isProtected(modifiers)) {
                faults.add("a class inside is not static and hidden: " + inside);
            }
            for (Method method : inside.getDeclaredMethods()) {
                if (names.contains(method.getName())) {
                    faults.add("a method inside bears a public name: " + method);
                }
            }
            fieldsOf(inside, false);
        }
        if (ViewMaintainer.class.getDeclaredClasses().length > 11) {
            faults.add("there are more than twelve classes");
        }
    }

    private static void fieldsOf(Class<?> owner, boolean isFace) {
        int own = 0;
        for (Field field : owner.getDeclaredFields()) {
            int modifiers = field.getModifiers();
            own += Modifier.isStatic(modifiers) ? 0 : 1;
            if (Modifier.isStatic(modifiers) && !Modifier.isFinal(modifiers)) {
                faults.add("a static field is not final: " + field);
            }
            if (isFace && !Modifier.isPrivate(modifiers)) {
                faults.add("a field is not private: " + field);
            }
        }
        if (own > 20) {
            faults.add("more than twenty fields: " + owner);
        }
    }
}
