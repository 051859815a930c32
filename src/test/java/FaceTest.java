import java.lang.reflect.Constructor;
import java.lang.reflect.Field;
import java.lang.reflect.Method;
import java.lang.reflect.Modifier;
import java.util.ArrayList;
import java.util.Arrays;
import java.util.Collections;
import java.util.List;

/** The face of the class: every member of the document, and no other that is not private. */
final class FaceTest {
    private static final String[] FACE = {
        "GossipMembership()",
        "boolean agree()",
        "boolean cut(int,int,boolean) IndexOutOfBoundsException IllegalArgumentException",
        "boolean isUp(int) IndexOutOfBoundsException",
        "boolean reaches(int,int) IndexOutOfBoundsException",
        "boolean tell(int,int,int,int) IndexOutOfBoundsException IllegalStateException IllegalArgumentException",
        "double averageCounter(int) IndexOutOfBoundsException",
        "float falseShare() ArithmeticException",
        "int alive(int) IndexOutOfBoundsException",
        "int appendCharacter(int) IllegalArgumentException IllegalStateException",
        "int counter(int,int) IndexOutOfBoundsException",
        "int crash(int) IndexOutOfBoundsException IllegalStateException",
        "int deadline(int,int) IndexOutOfBoundsException IllegalArgumentException NoSuchElementException",
        "int declarations()",
        "int disagreements()",
        "int failure(int) IllegalArgumentException NoSuchElementException",
        "int falseDeclarations()",
        "int incarnation(int) IndexOutOfBoundsException",
        "int join(int,int) IndexOutOfBoundsException IllegalStateException IllegalArgumentException",
        "int messages()",
        "int move(int,int) IndexOutOfBoundsException IllegalArgumentException",
        "int partition(int) IndexOutOfBoundsException",
        "int quietRounds()",
        "int refutations()",
        "int round()",
        "int rounds(int) IllegalArgumentException",
        "int roundsUntilAgreement(int) IllegalArgumentException NoSuchElementException",
        "int runText() IllegalArgumentException IllegalStateException",
        "int seed()",
        "int setFanOut(int) IllegalArgumentException",
        "int setHelpers(int) IllegalArgumentException",
        "int setPatience(int) IllegalArgumentException",
        "int setSeed(int) IllegalArgumentException",
        "int view(int,int) IndexOutOfBoundsException IllegalArgumentException",
        "int viewIncarnation(int,int) IndexOutOfBoundsException IllegalArgumentException",
        "void restore() IllegalStateException",
        "void save()",
    };

    private FaceTest() {
    }

    static void run() {
        Class<?> face = GossipMembership.class;
        Check.same("public and final", face.getModifiers(), Modifier.PUBLIC | Modifier.FINAL);
        List<String> found = new ArrayList<>();
        for (Constructor<?> made : face.getDeclaredConstructors()) {
            if (!Modifier.isPrivate(made.getModifiers())) {
                found.add("GossipMembership" + ends(made.getParameterTypes(), made.getExceptionTypes()));
            }
        }
        for (Method method : face.getDeclaredMethods()) {
            if (!Modifier.isPrivate(method.getModifiers()) && !method.isSynthetic()) {
                found.add(method.getReturnType().getSimpleName() + " " + method.getName()
                        + ends(method.getParameterTypes(), method.getExceptionTypes()));
            }
        }
        for (Field field : face.getDeclaredFields()) {
            if (!Modifier.isPrivate(field.getModifiers()) && !field.isSynthetic()) {
                found.add("field " + field.getName());
            }
        }
        Collections.sort(found);
        Check.same("the face", found, Arrays.asList(FACE));
    }

    private static String ends(Class<?>[] parameters, Class<?>[] exceptions) {
        StringBuilder out = new StringBuilder("(");
        for (int k = 0; k < parameters.length; k++) {
            out.append(k == 0 ? "" : ",").append(parameters[k].getSimpleName());
        }
        out.append(")");
        for (Class<?> exception : exceptions) {
            out.append(" ").append(exception.getSimpleName());
        }
        return out.toString();
    }
}
