import java.lang.reflect.Constructor;
import java.lang.reflect.Field;
import java.lang.reflect.Method;
import java.lang.reflect.Modifier;
import java.util.Arrays;
import java.util.Set;
import java.util.TreeSet;
import java.util.stream.Collectors;

/** The class has the document's face, and nothing else that can be seen. */
public final class FaceTest {
    private static final String[] FACE = {
        "int feed(int)", "int end(int)", "int text()", "int fault()", "int rule(int)", "int claim(int,int)",
        "int plan(int)", "int say(int)", "int drop(int)", "int day(int)", "int aim(int)",
        "int leans(int,int,boolean)", "int falls(int,int,boolean)", "int yards(int,int)", "int plans(int)",
        "int cut(int)", "int stands(int)", "int sum(int)", "int upon(int)", "int reply(int,int)",
        "int ever(int)", "int chain(int)", "int late()", "int few(int)", "int foil(int)", "int trial(int)",
        "long luck(int,int)", "int game(int)", "int days()", "long share(int,int)", "int see(int,boolean)",
        "int forget(int)", "int fits(int)", "int drift(int,int,int)", "int keep(int)", "int back(int)",
        "int sheet(int,int,int)", "int lay(int,int,int)", "int read(int,int,int,int)", "int torn()",
        "int count(int)"};

    public static void main(String[] args) {
        Check check = new Check("FaceTest");
        check.isTrue("public and final", Modifier.isPublic(RiverSuit.class.getModifiers())
                && Modifier.isFinal(RiverSuit.class.getModifiers()));
        methods(check);
        fields(check);
        for (Constructor<?> made : RiverSuit.class.getDeclaredConstructors()) {
            check.isTrue("one constructor, public, of nothing",
                    Modifier.isPublic(made.getModifiers()) && made.getParameterCount() == 0);
        }
        for (Class<?> inside : RiverSuit.class.getDeclaredClasses()) {
            check.isTrue(inside + " is static", Modifier.isStatic(inside.getModifiers()));
            check.isTrue(inside + " is not public", !Modifier.isPublic(inside.getModifiers())
                    && !Modifier.isProtected(inside.getModifiers()));
        }
        check.close();
    }

    private static void methods(Check check) {
        Set<String> seen = new TreeSet<>();
        Set<String> names = new TreeSet<>();
        for (Method m : RiverSuit.class.getDeclaredMethods()) {
            if (Modifier.isPrivate(m.getModifiers())) {
                continue;
            }
            check.isTrue(m + " is public, not static",
                    Modifier.isPublic(m.getModifiers()) && !Modifier.isStatic(m.getModifiers()));
            seen.add(m.getReturnType() + " " + m.getName() + "(" + Arrays.stream(m.getParameterTypes())
                    .map(Class::getName).collect(Collectors.joining(",")) + ")");
            names.add(m.getName());
        }
        check.isTrue("the methods are the document's: " + seen, seen.equals(new TreeSet<>(Arrays.asList(FACE))));
        for (Method m : RiverSuit.class.getDeclaredMethods()) {
            check.isTrue(m + " bears no public method's name",
                    !Modifier.isPrivate(m.getModifiers()) || !names.contains(m.getName()));
        }
    }

    private static void fields(Check check) {
        Set<String> seen = new TreeSet<>();
        for (Field f : RiverSuit.class.getDeclaredFields()) {
            int is = f.getModifiers();
            if (!Modifier.isPrivate(is)) {
                seen.add(f.getName());
                check.isTrue(f + " is a constant", Modifier.isPublic(is) && Modifier.isStatic(is)
                        && Modifier.isFinal(is) && f.getType() == int.class);
            }
            check.isTrue(f + " is final if static", !Modifier.isStatic(is) || Modifier.isFinal(is));
        }
        check.isTrue("the constants are the document's",
                seen.equals(new TreeSet<>(Arrays.asList("BAD", "STATE", "FULL", "NONE"))));
        check.due("BAD", RiverSuit.BAD, -1);
        check.due("STATE", RiverSuit.STATE, -2);
        check.due("FULL", RiverSuit.FULL, -3);
        check.due("NONE", RiverSuit.NONE, -4);
    }
}
