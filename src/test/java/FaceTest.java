import java.lang.reflect.Constructor;
import java.lang.reflect.Field;
import java.lang.reflect.Method;
import java.lang.reflect.Modifier;
import java.util.Arrays;
import java.util.TreeSet;

/** Promise 1, and the public face: these members with these exceptions, and no others. */
public final class FaceTest {
    private static final String I = "IndexOutOfBoundsException";
    private static final String A = "IllegalArgumentException";
    private static final String S = "IllegalStateException";

    public static void main(String[] args) {
        newObjectIsEmpty();
        objectsAreApart();
        faceIsTheDocuments();
        Check.end("FaceTest");
    }

    private static void newObjectIsEmpty() {
        Iemotohall x = new Iemotohall();
        for (int what = 0; what <= 13; what++) {
            Check.is("many(" + what + ") of a new one", x.many(what), 0);
        }
        Check.index(x, "ofPerson(0, 0) of a new one", () -> x.ofPerson(0, 0));
        Check.index(x, "ofHouse(0, 0) of a new one", () -> x.ofHouse(0, 0));
        Check.index(x, "ofSecret(0, 0) of a new one", () -> x.ofSecret(0, 0));
        Check.index(x, "ofUtensil(0, 0) of a new one", () -> x.ofUtensil(0, 0));
        long d = 58226;
        for (int i = 0; i < 14; i++) {
            d *= 31;
        }
        Check.is("digest of a new one", x.digest(), d);
    }

    private static void objectsAreApart() {
        Iemotohall one = new Iemotohall();
        Iemotohall other = new Iemotohall();
        one.person(-1, -1);
        one.pass(3);
        Check.is("people of another object", other.many(1), 0);
        Check.is("day of another object", other.many(0), 0);
    }

    private static void faceIsTheDocuments() {
        TreeSet<String> due = new TreeSet<>(Arrays.asList(
            "int person(int,int) " + I + " " + S,
            "int give(int) " + I + " " + S,
            "int revoke(int,int) " + I + " " + A + " " + S,
            "int die(int) " + I + " " + S,
            "int adopt(int,int,boolean) " + I + " " + S,
            "int heir(int,int) " + I + " " + S,
            "int part(int) " + I + " " + S,
            "int pass(int) " + A,
            "int secret(int,int,int) " + I + " " + A + " " + S,
            "boolean read(int,int) " + I + " " + S,
            "int copy(int,int) " + I + " " + S,
            "int rebuild(int,int) " + I + " " + S,
            "int utensil(int,int,int,int,int) " + I + " " + A + " " + S,
            "int lend(int,int) " + I + " " + S,
            "int mend(int,boolean) " + I + " " + S,
            "boolean quarrel(int,int,boolean) " + I + " " + A,
            "int hold(int,int) " + I + " " + A + " " + S,
            "int ofPerson(int,int) " + I + " " + A,
            "int giver(int,int,boolean) " + I + " " + A,
            "int ofHouse(int,int) " + I + " " + A,
            "int ofSecret(int,int) " + I + " " + A,
            "int ofUtensil(int,int) " + I + " " + A,
            "int many(int) " + A,
            "double meanStep(int) " + I,
            "int plan(int,int,int) " + I + " " + A + " " + S,
            "int wouldFall(int,int) " + I + " " + A + " " + S,
            "int wouldLose(int) " + I,
            "long digest()"));
        TreeSet<String> got = new TreeSet<>();
        for (Method m : Iemotohall.class.getDeclaredMethods()) {
            if (!Modifier.isPrivate(m.getModifiers()) && !m.isSynthetic()) {
                got.add(told(m));
            }
        }
        if (!got.equals(due)) {
            Check.tell("the face is " + got + ", due is " + due);
        }
        Check.is("is final", Modifier.isFinal(Iemotohall.class.getModifiers()), true);
        Constructor<?>[] makers = Iemotohall.class.getDeclaredConstructors();
        Check.is("constructors", makers.length, 1);
        for (Field f : Iemotohall.class.getDeclaredFields()) {
            Check.is("field " + f.getName() + " is private", Modifier.isPrivate(f.getModifiers()), true);
        }
    }

    private static String told(Method m) {
        StringBuilder text = new StringBuilder();
        text.append(m.getReturnType().getSimpleName()).append(' ').append(m.getName()).append('(');
        for (int i = 0; i < m.getParameterCount(); i++) {
            text.append(i == 0 ? "" : ",").append(m.getParameterTypes()[i].getSimpleName());
        }
        text.append(')');
        for (Class<?> e : m.getExceptionTypes()) {
            text.append(' ').append(e.getSimpleName());
        }
        return text.toString();
    }
}
