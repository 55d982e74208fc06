import java.lang.reflect.Constructor;
import java.lang.reflect.Field;
import java.lang.reflect.Method;
import java.lang.reflect.Modifier;
import java.util.Arrays;
import java.util.Set;
import java.util.TreeSet;

/** The public face, and what of LANGUAGE.md can be seen from the compiled class. */
public final class FaceTest {
    /** The exceptions without the end of their names, "Exception". */
    private static final String[] FACE = {
        "int setWarm(int, int) throws IndexOutOfBounds, IllegalArgument",
        "int addHarbour(int, int) throws IllegalArgument, IllegalState",
        "int setPrice(int, int, int) throws IndexOutOfBounds, IllegalArgument",
        "int harbour(int, int) throws IndexOutOfBounds",
        "int leg(int, int) throws IndexOutOfBounds",
        "int addMerchant(int) throws IllegalArgument, IllegalState",
        "int bring(int, int, int, int) throws IndexOutOfBounds, IllegalArgument",
        "int sell(int, int, int, int) throws IndexOutOfBounds, IllegalArgument, IllegalState",
        "int stock(int, int, int) throws IndexOutOfBounds",
        "int merchant(int, int) throws IndexOutOfBounds",
        "int build(int, int, int) throws IndexOutOfBounds, IllegalArgument, IllegalState",
        "int load(int, int, int) throws IndexOutOfBounds, IllegalArgument, IllegalState",
        "int send(int, int) throws IndexOutOfBounds, IllegalState",
        "int berth(int, boolean) throws IndexOutOfBounds, IllegalState",
        "int mend(int) throws IndexOutOfBounds, IllegalState",
        "int boat(int, int) throws IndexOutOfBounds",
        "int lend(int, int, int, int, int, int) throws IndexOutOfBounds, IllegalArgument, IllegalState",
        "int repay(int, int) throws IndexOutOfBounds, IllegalState",
        "int debt(int, int) throws IndexOutOfBounds",
        "int pass(int) throws IllegalArgument",
        "int count(int) throws IndexOutOfBounds",
        "int opens(int) throws IndexOutOfBounds",
        "int arrives(int) throws IndexOutOfBounds",
        "int latest(int, int) throws IndexOutOfBounds",
        "int advise(int, int) throws IndexOutOfBounds, IllegalArgument",
        "double mean()",
        "long digest()",
    };

    public static void main(String[] args) {
        Class<?> c = IceHarbour.class;
        Check.holds("public and final", Modifier.isPublic(c.getModifiers()) && Modifier.isFinal(c.getModifiers()));
        Constructor<?>[] made = c.getDeclaredConstructors();
        Check.holds("one public constructor without parameters",
            made.length == 1 && Modifier.isPublic(made[0].getModifiers()) && made[0].getParameterCount() == 0);
        methods(c);
        fields(c);
        for (Class<?> inside : c.getDeclaredClasses()) {
            int m = inside.getModifiers();
            Check.holds(inside + " is static and not public",
                Modifier.isStatic(m) && !Modifier.isPublic(m) && !Modifier.isProtected(m));
            fields(inside);
            for (Method own : inside.getDeclaredMethods()) {
                Check.holds(own + " bears no public name", !String.join(" ", FACE).contains(" " + own.getName() + "("));
            }
        }
        Check.holds("at most twelve classes", c.getDeclaredClasses().length + 1 <= 12);
        Check.end();
    }

    private static void methods(Class<?> c) {
        Set<String> face = new TreeSet<>(Arrays.asList(FACE));
        Set<String> found = new TreeSet<>();
        Set<String> publicNames = new TreeSet<>();
        Set<String> privateNames = new TreeSet<>();
        for (Method m : c.getDeclaredMethods()) {
            if (Modifier.isPrivate(m.getModifiers()) || m.isSynthetic()) {
                privateNames.add(m.getName());
                continue;
            }
            found.add(m.getReturnType() + " " + m.getName() + "(" + namesOf(m.getParameterTypes()) + ")"
                + (m.getExceptionTypes().length == 0 ? "" : " throws " + namesOf(m.getExceptionTypes())));
            publicNames.add(m.getName());
            Check.holds(m + " is public and not static",
                Modifier.isPublic(m.getModifiers()) && !Modifier.isStatic(m.getModifiers()));
        }
        Check.holds("the methods " + found + " are those of the document", found.equals(face));
        privateNames.retainAll(publicNames);
        Check.holds("no private method bears a public one's name: " + privateNames, privateNames.isEmpty());
    }

    private static String namesOf(Class<?>[] types) {
        StringBuilder names = new StringBuilder();
        for (Class<?> type : types) {
            names.append(names.length() == 0 ? "" : ", ").append(type.getSimpleName().replace("Exception", ""));
        }
        return names.toString();
    }

    private static void fields(Class<?> c) {
        int own = 0;
        for (Field f : c.getDeclaredFields()) {
            int m = f.getModifiers();
            Check.holds(f + " is final, if static", !Modifier.isStatic(m) || Modifier.isFinal(m));
            Check.holds(f + " is private, if outside", c != IceHarbour.class || Modifier.isPrivate(m));
            own += Modifier.isStatic(m) ? 0 : 1;
        }
        Check.holds(c + " has at most 20 fields", own <= 20);
    }
}
