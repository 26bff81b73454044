import java.lang.reflect.Constructor;
import java.lang.reflect.Field;
import java.lang.reflect.Method;
import java.lang.reflect.Modifier;
import java.util.Arrays;
import java.util.Set;
import java.util.TreeSet;

/** The class has the document's public face, and nothing else that others can see. */
public final class CityBankFace {
    private static final String[] METHODS = {
        "int terms(int, int, int, int, int, int, int, int)", "int kind(int, int, int)", "int account()",
        "int attorney(int, int, int)", "int take(int, int, int)", "long redeem(int)", "long prolong(int)",
        "int give(int, int)", "int order(int, int, long, int, int)", "int bill(int, int, long, int)",
        "int slip(int, int, int)", "int close()", "int suspects(int)", "int suspect(int, int)", "boolean mend(int)",
        "long weighed(int, int, int)", "int loan(int, int, int)", "boolean tell(int, int)", "long gap(int, int)",
        "long run(long)", "int accountOf(int, int)", "int folio(int, int)", "long balance(int)", "long written(int)",
        "int line(int, int)", "long lineSum(int)", "int orderOf(int, int)", "int receipt(int, int)", "long book(int)",
        "long vault(int, int)", "int count(int)", "long sum(int)", "int row(int, int, int)", "boolean tear(int)",
        "int write(int, int, long)", "int paste(int, int, int, int, int)"};
    private static int wrong = 0;

    private CityBankFace() {
    }

    private static void due(String what, Object got, Object want) {
        if (!got.equals(want)) {
            wrong++;
            System.out.println(what + " is " + got + ", due is " + want);
        }
    }

    public static void main(String[] args) {
        methods();
        fields();
        constructors();
        classesInside();
        System.out.println(wrong == 0 ? "the face is as due" : wrong + " parts of the face are not as due");
        if (wrong != 0) {
            System.exit(1);
        }
    }

    private static void methods() {
        Set<String> seen = new TreeSet<>();
        Set<String> publicNames = new TreeSet<>();
        for (Method m : CityBank.class.getDeclaredMethods()) {
            if (!Modifier.isPrivate(m.getModifiers())) {
                seen.add(signature(m));
                publicNames.add(m.getName());
                due(m.getName() + " is public, of an object", Modifier.isPublic(m.getModifiers()) && !Modifier.isStatic(m.getModifiers()), true);
            }
        }
        due("the methods", seen, new TreeSet<>(Arrays.asList(METHODS)));
        for (Method m : CityBank.class.getDeclaredMethods()) {
            if (Modifier.isPrivate(m.getModifiers())) {
                due("private " + m.getName() + " bears a public name", publicNames.contains(m.getName()), false);
                due(m.getName() + " has at most seven parameters", m.getParameterCount() <= 7, true);
            }
        }
    }

    private static String signature(Method m) {
        String parameters = Arrays.toString(m.getParameterTypes());
        return m.getReturnType() + " " + m.getName() + "(" + parameters.substring(1, parameters.length() - 1) + ")";
    }

    private static void fields() {
        Set<String> seen = new TreeSet<>();
        for (Field f : CityBank.class.getDeclaredFields()) {
            if (!Modifier.isPrivate(f.getModifiers())) {
                seen.add(Modifier.toString(f.getModifiers()) + " " + f.getType() + " " + f.getName());
            }
            due(f.getName() + " is final if static", !Modifier.isStatic(f.getModifiers()) || Modifier.isFinal(f.getModifiers()), true);
        }
        due("the constants", seen, Set.of("public static final int NONE"));
    }

    private static void constructors() {
        Constructor<?>[] all = CityBank.class.getDeclaredConstructors();
        due("constructors", all.length, 1);
        due("it is public, without parameters", Modifier.isPublic(all[0].getModifiers()) && all[0].getParameterCount() == 0, true);
        int class_ = CityBank.class.getModifiers();
        due("the class is public and final", Modifier.isPublic(class_) && Modifier.isFinal(class_), true);
    }

    private static void classesInside() {
        Class<?>[] inside = CityBank.class.getDeclaredClasses();
        due("at most twelve classes", inside.length + 1 <= 12, true);
        for (Class<?> c : inside) {
            int m = c.getModifiers();
            due(c.getName() + " is static", Modifier.isStatic(m), true);
            due(c.getName() + " is seen from without", Modifier.isPublic(m) || Modifier.isProtected(m), false);
            for (Field f : c.getDeclaredFields()) {
                due(f + " is final if static", !Modifier.isStatic(f.getModifiers()) || Modifier.isFinal(f.getModifiers()), true);
            }
        }
    }
}
