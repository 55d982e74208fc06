import java.lang.reflect.Constructor;
import java.lang.reflect.Field;
import java.lang.reflect.Method;
import java.lang.reflect.Modifier;
import java.util.Arrays;
import java.util.Set;
import java.util.TreeSet;

/** The public face, and what of LANGUAGE.md can be seen from the compiled class. */
public final class FaceTest {
    private static final String[] FACE = {
        "int setWarm(int, int)", "int addHarbour(int, int)", "int setPrice(int, int, int)",
        "int harbour(int, int)", "int leg(int, int)", "int addMerchant(int)",
        "int bring(int, int, int, int)", "int sell(int, int, int, int)", "int stock(int, int, int)",
        "int merchant(int, int)", "int build(int, int, int)", "int load(int, int, int)", "int send(int, int)",
        "int berth(int, boolean)", "int mend(int)", "int boat(int, int)",
        "int lend(int, int, int, int, int, int)", "int repay(int, int)", "int debt(int, int)", "int pass(int)",
        "int count(int)", "int opens(int)", "int arrives(int)", "int latest(int, int)", "int advise(int, int)",
        "double mean()", "long digest()",
    };

    public static void main(String[] args) {
        Class<?> c = IceHarbour.class;
        Check.holds("public and final", Modifier.isPublic(c.getModifiers()) && Modifier.isFinal(c.getModifiers()));
        Constructor<?>[] made = c.getDeclaredConstructors();
        Check.holds("one public constructor without parameters",
            made.length == 1 && Modifier.isPublic(made[0].getModifiers()) && made[0].getParameterCount() == 0);
        methods(c);
        fields(c);
        for (Class<?> inside : c.getDeclaredClasses()) {
            int m = inside.getModifiers();
            Check.holds(inside + " is static and not public",
                Modifier.isStatic(m) && !Modifier.isPublic(m) && !Modifier.isProtected(m));
            fields(inside);
            for (Method own : inside.getDeclaredMethods()) {
                Check.holds(own + " bears no public name", !String.join(" ", FACE).contains(" " + own.getName() + "("));
            }
        }
        Check.holds("at most twelve classes", c.getDeclaredClasses().length + 1 <= 12);
        Check.end();
    }

    private static void methods(Class<?> c) {
        Set<String> face = new TreeSet<>(Arrays.asList(FACE));
        Set<String> found = new TreeSet<>();
        Set<String> publicNames = new TreeSet<>();
        Set<String> privateNames = new TreeSet<>();
        for (Method m : c.getDeclaredMethods()) {
            if (Modifier.isPrivate(m.getModifiers()) || m.isSynthetic()) {
                privateNames.add(m.getName());
                continue;
            }
            String parameters = Arrays.toString(m.getParameterTypes());
            found.add(m.getReturnType() + " " + m.getName() + "("
                + parameters.substring(1, parameters.length() - 1) + ")");
            publicNames.add(m.getName());
            Check.holds(m + " is public and not static",
                Modifier.isPublic(m.getModifiers()) && !Modifier.isStatic(m.getModifiers()));
        }
        Check.holds("the methods " + found + " are those of the document", found.equals(face));
        privateNames.retainAll(publicNames);
        Check.holds("no private method bears a public one's name: " + privateNames, privateNames.isEmpty());
    }

    private static void fields(Class<?> c) {
        int own = 0;
        for (Field f : c.getDeclaredFields()) {
            int m = f.getModifiers();
            Check.holds(f + " is final, if static", !Modifier.isStatic(m) || Modifier.isFinal(m));
            Check.holds(f + " is private, if outside", c != IceHarbour.class || Modifier.isPrivate(m));
            own += Modifier.isStatic(m) ? 0 : 1;
        }
        Check.holds(c + " has at most 20 fields", own <= 20);
    }
}
