import java.lang.reflect.Constructor;
import java.lang.reflect.Field;
import java.lang.reflect.Method;
import java.lang.reflect.Modifier;
import java.util.ArrayList;
import java.util.Arrays;
import java.util.HashSet;
import java.util.List;
import java.util.Set;
import java.util.TreeSet;

/** The face has the members of the document and no other that can be seen from outside. */
public final class FaceTest {
    private static final String[] METHODS = {
        "int addCopy(int,int) throws IllegalArgumentException,IllegalStateException",
        "int inHandsOf(int) throws IndexOutOfBoundsException",
        "boolean isFree(int) throws IndexOutOfBoundsException",
        "int listed(int) throws IndexOutOfBoundsException",
        "int harm(int) throws IndexOutOfBoundsException,IllegalStateException",
        "int look(int) throws IndexOutOfBoundsException,IllegalStateException",
        "void mend(int) throws IndexOutOfBoundsException,IllegalStateException",
        "int request(int,int) throws IllegalArgumentException,IllegalStateException",
        "int state(int) throws IndexOutOfBoundsException",
        "int copyOf(int) throws IndexOutOfBoundsException",
        "int due(int) throws IndexOutOfBoundsException,IllegalStateException",
        "int renew(int) throws IndexOutOfBoundsException,IllegalStateException",
        "int recall(int) throws IndexOutOfBoundsException,IllegalStateException",
        "int sendBack(int) throws IndexOutOfBoundsException,IllegalStateException",
        "int pass(int) throws IllegalArgumentException",
        "int today()",
        "int owes(int,int) throws IllegalArgumentException",
        "int settle()",
        "int quota(int) throws IllegalArgumentException",
    };

    public static void main(String[] args) {
        constants();
        methods();
        hiddenMembers();
        Check.finish();
    }

    private static void constants() {
        Check.equal("ASKING", UnionList.ASKING, 0);
        Check.equal("COMING", UnionList.COMING, 1);
        Check.equal("LOAN", UnionList.LOAN, 2);
        Check.equal("GOING_BACK", UnionList.GOING_BACK, 3);
        Check.equal("OVER", UnionList.OVER, 4);
        Check.equal("FAILED", UnionList.FAILED, 5);
        Set<String> seen = new TreeSet<>();
        for (Field field : UnionList.class.getDeclaredFields()) {
            if (!Modifier.isPrivate(field.getModifiers())) {
                seen.add(Modifier.toString(field.getModifiers()) + " " + field.getName());
            }
            if (Modifier.isStatic(field.getModifiers())) {
                Check.equal("final " + field.getName(), Modifier.isFinal(field.getModifiers()), true);
            }
        }
        String kept = "public static final ";
        Check.equal("public fields", seen.toString(), new TreeSet<>(Arrays.asList(kept + "ASKING", kept + "COMING",
                kept + "LOAN", kept + "GOING_BACK", kept + "OVER", kept + "FAILED")).toString());
    }

    private static void methods() {
        List<String> seen = new ArrayList<>();
        for (Method method : UnionList.class.getDeclaredMethods()) {
            if (!Modifier.isPrivate(method.getModifiers())) {
                Check.equal("modifiers of " + method.getName(), method.getModifiers(), Modifier.PUBLIC);
                seen.add(textOf(method));
            }
        }
        Check.equal("public methods", new TreeSet<>(seen).toString(),
                new TreeSet<>(Arrays.asList(METHODS)).toString());
        Check.equal("count of public methods", seen.size(), METHODS.length);
        Constructor<?>[] constructors = UnionList.class.getDeclaredConstructors();
        Check.equal("constructors", constructors.length, 1);
        Check.equal("constructor's modifiers", constructors[0].getModifiers(), Modifier.PUBLIC);
        Check.equal("constructor's parameters", constructors[0].getParameterCount(), 0);
        Check.equal("class's modifiers", UnionList.class.getModifiers(), Modifier.PUBLIC | Modifier.FINAL);
    }

    private static void hiddenMembers() {
        Set<String> faceNames = new HashSet<>();
        for (Method method : UnionList.class.getMethods()) {
            faceNames.add(method.getName());
        }
        for (Method method : UnionList.class.getDeclaredMethods()) {
            if (Modifier.isPrivate(method.getModifiers())) {
                Check.equal("private " + method.getName() + " has a public name",
                        faceNames.contains(method.getName()), false);
            }
        }
        for (Class<?> inside : UnionList.class.getDeclaredClasses()) {
            int modifiers = inside.getModifiers();
            Check.equal(inside.getName() + " is static", Modifier.isStatic(modifiers), true);
            Check.equal(inside.getName() + " is seen outside",
                    Modifier.isPublic(modifiers) || Modifier.isProtected(modifiers), false);
        }
    }

    private static String textOf(Method method) {
        StringBuilder text = new StringBuilder();
        text.append(method.getReturnType().getName()).append(' ').append(method.getName());
        text.append('(').append(simpleNames(method.getParameterTypes())).append(')');
        if (method.getExceptionTypes().length > 0) {
            text.append(" throws ").append(simpleNames(method.getExceptionTypes()));
        }
        return text.toString();
    }

    private static String simpleNames(Class<?>[] types) {
        StringBuilder names = new StringBuilder();
        for (Class<?> type : types) {
            names.append(names.length() == 0 ? "" : ",").append(type.getSimpleName());
        }
        return names.toString();
    }
}
