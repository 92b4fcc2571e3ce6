import java.lang.reflect.Constructor;
import java.lang.reflect.Field;
import java.lang.reflect.Method;
import java.lang.reflect.Modifier;
import java.util.Arrays;
import java.util.TreeSet;

/** The public face is the document's, and nothing more (LANGUAGE.md, rules 1 and 5). */
public final class FaceTest {
    private static final String[] METHODS = {
        "int write(int)", "int wipe()", "int fault()", "int road()", "int about(int)", "int beast(int,int)",
        "int gate(int,int)", "int give()", "int pass()", "int dusk()", "int open()", "int undo()",
        "int taking(int,int)", "int cheapest(int)", "int farthest(int)", "int judged(int,int)",
        "int orders(int)", "int lasts()", "int feeds()", "int odds(int,boolean)", "int first(int)",
        "int boat(int)", "int share(int,int)", "int envies(int)", "int eaten(int,int)",
        "int tell(int,boolean)", "int untell()", "int luck(int,int,boolean)", "long seed(long)",
        "int roam(int)", "int keep(int)", "int again(int)"};
    private static final String[] FIELDS = {"UNKNOWN", "BAD", "LATE", "FULL", "NONE"};

    public static void main(String[] args) {
        Checks checks = new Checks();
        checks.about("face");
        TreeSet<String> methods = new TreeSet<>();
        TreeSet<String> publicNames = new TreeSet<>();
        for (Method method : DumplingBand.class.getDeclaredMethods()) {
            if (!Modifier.isPrivate(method.getModifiers())) {
                methods.add(told(method));
                publicNames.add(method.getName());
            }
        }
        if (!methods.equals(new TreeSet<>(Arrays.asList(METHODS)))) {
            System.out.println("methods are " + methods);
            checks.due("methods as the document's", 0, 1);
        }
        TreeSet<String> fields = new TreeSet<>();
        for (Field field : DumplingBand.class.getDeclaredFields()) {
            if (!Modifier.isPrivate(field.getModifiers())) {
                fields.add(field.getName());
                int wanted = Modifier.PUBLIC | Modifier.STATIC | Modifier.FINAL;
                checks.due("modifiers of " + field.getName(), field.getModifiers(), wanted);
                checks.due(field.getName() + " is an int", field.getType() == int.class ? 1 : 0, 1);
            }
        }
        checks.due("constants as the document's", fields.equals(new TreeSet<>(Arrays.asList(FIELDS))) ? 1 : 0, 1);
        checks.due("modifiers", DumplingBand.class.getModifiers(), Modifier.PUBLIC | Modifier.FINAL);
        Constructor<?>[] made = DumplingBand.class.getDeclaredConstructors();
        checks.due("constructors", made.length, 1);
        checks.due("public constructor", made[0].getModifiers(), Modifier.PUBLIC);
        checks.due("its parameters", made[0].getParameterCount(), 0);
        lookInside(checks, publicNames);
        constants(checks);
        checks.end();
    }

    private static void lookInside(Checks checks, TreeSet<String> publicNames) {
        for (Method method : DumplingBand.class.getDeclaredMethods()) {
            boolean isPrivate = Modifier.isPrivate(method.getModifiers());
            checks.due(method.getName() + " is named as a public one",
                isPrivate && publicNames.contains(method.getName()) ? 1 : 0, 0);
        }
        for (Class<?> inside : DumplingBand.class.getDeclaredClasses()) {
            checks.due(inside + " is static", Modifier.isStatic(inside.getModifiers()) ? 1 : 0, 1);
            checks.due(inside + " is public", Modifier.isPublic(inside.getModifiers()) ? 1 : 0, 0);
            for (Field field : inside.getDeclaredFields()) {
                boolean isStatic = Modifier.isStatic(field.getModifiers());
                checks.due(field + " is static and not final",
                    isStatic && !Modifier.isFinal(field.getModifiers()) ? 1 : 0, 0);
            }
        }
    }

    private static void constants(Checks checks) {
        checks.due("UNKNOWN", DumplingBand.UNKNOWN, -1);
        checks.due("BAD", DumplingBand.BAD, -2);
        checks.due("LATE", DumplingBand.LATE, -3);
        checks.due("FULL", DumplingBand.FULL, -4);
        checks.due("NONE", DumplingBand.NONE, -9);
    }

    private static String told(Method method) {
        StringBuilder text = new StringBuilder();
        text.append(method.getReturnType().getName()).append(' ').append(method.getName()).append('(');
        String between = "";
        for (Class<?> type : method.getParameterTypes()) {
            text.append(between).append(type.getName());
            between = ",";
        }
        return text.append(')').toString();
    }
}
