import java.lang.reflect.Field;
import java.lang.reflect.Member;
import java.lang.reflect.Method;
import java.lang.reflect.Modifier;
import java.util.ArrayList;
import java.util.Arrays;
import java.util.List;
import java.util.TreeSet;

/** The public face of the document, and rules 1, 5 and 11 of LANGUAGE.md, as far as the compiled class shows them. */
public final class FaceTest {
    private static final String[] METHODS = {
        "tag 2", "everybody 1", "told 2", "label 3", "drop 3", "spawn 5", "exit 1", "endpoint 3", "close 2", "port 2",
        "send 6", "receive 2", "message 2", "container 6", "file 4", "remove 2", "write 4", "append 4", "read 3",
        "object 3", "list 3", "crash 1", "count 1"};

    public static void main(String[] args) throws ReflectiveOperationException {
        constants();
        methods();
        classes();
        calledBeyondItsEnd();
        calledWithAnything();
        Check.end();
    }

    private static void constants() {
        Check.due("NONE", LabelKernel.NONE, -1);
        Check.due("UNKNOWN", LabelKernel.UNKNOWN, -1000001);
        Check.due("OUTSIDE", LabelKernel.OUTSIDE, -1000002);
        Check.due("DENIED", LabelKernel.DENIED, -1000003);
        Check.due("FULL", LabelKernel.FULL, -1000004);
        Check.due("CRASHED", LabelKernel.CRASHED, -1000005);
        TreeSet<String> names = new TreeSet<>();
        for (Field field : LabelKernel.class.getDeclaredFields()) {
            if (isSeen(field)) {
                names.add(field.getName());
            }
        }
        Check.holds("no other constant is seen: " + names,
            names.equals(new TreeSet<>(List.of("NONE", "UNKNOWN", "OUTSIDE", "DENIED", "FULL", "CRASHED"))));
    }

    private static void methods() {
        TreeSet<String> seen = new TreeSet<>();
        TreeSet<String> hidden = new TreeSet<>();
        List<Class<?>> all = new ArrayList<>(Arrays.asList(LabelKernel.class.getDeclaredClasses()));
        all.add(LabelKernel.class);
        for (Class<?> one : all) {
            for (Method method : one.getDeclaredMethods()) {
                Check.holds(method + " has at most seven parameters", method.getParameterCount() <= 7);
                if (one == LabelKernel.class && isSeen(method)) {
                    Check.holds(method + " is public", Modifier.isPublic(method.getModifiers()));
                    Check.holds(method + " answers int", method.getReturnType() == int.class);
                    Check.holds(method + " is not static", !Modifier.isStatic(method.getModifiers()));
                    for (Class<?> type : method.getParameterTypes()) {
                        Check.holds(method + " takes ints", type == int.class);
                    }
                    seen.add(method.getName() + " " + method.getParameterCount());
                } else {
                    hidden.add(method.getName());
                }
            }
        }
        Check.holds("the methods are the document's: " + seen, seen.equals(new TreeSet<>(Arrays.asList(METHODS))));
        for (String name : METHODS) {
            Check.holds("none that is private bears the name of " + name, !hidden.contains(name.split(" ")[0]));
        }
    }

    private static void classes() {
        int modifiers = LabelKernel.class.getModifiers();
        Check.holds("the class is public and final", Modifier.isPublic(modifiers) && Modifier.isFinal(modifiers));
        Check.due("constructors", LabelKernel.class.getDeclaredConstructors().length, 1);
        Check.holds("the constructor is public", Modifier.isPublic(LabelKernel.class.getDeclaredConstructors()[0].getModifiers()));
        Check.due("its parameters", LabelKernel.class.getDeclaredConstructors()[0].getParameterCount(), 0);
        List<Class<?>> all = new ArrayList<>(Arrays.asList(LabelKernel.class.getDeclaredClasses()));
        for (Class<?> one : all) {
            Check.holds(one + " is static", Modifier.isStatic(one.getModifiers()));
            Check.holds(one + " is not public", !Modifier.isPublic(one.getModifiers()) && !Modifier.isProtected(one.getModifiers()));
        }
        all.add(LabelKernel.class);
        for (Class<?> one : all) {
            int fields = 0;
            for (Field field : one.getDeclaredFields()) {
                boolean isStatic = Modifier.isStatic(field.getModifiers());
                Check.holds(field + " is final, if static", !isStatic || Modifier.isFinal(field.getModifiers()));
                fields += isStatic ? 0 : 1;
            }
            Check.holds(one + " has some twenty fields at most", fields <= 20);
        }
    }

    private static boolean isSeen(Member member) {
        return !Modifier.isPrivate(member.getModifiers());
    }

    /** What is answered behind the 512th call is free, but it must not throw. */
    private static void calledBeyondItsEnd() {
        LabelKernel k = new LabelKernel();
        int answered = 0;
        for (int call = 0; call < 2000; call++) {
            k.tag(0, call % 3);
            k.spawn(0, 0, 0, 0, 0);
            k.endpoint(0, 0, 0);
            k.send(0, 0, call % 40, call, 0, 0);
            k.file(0, 0, 0, 0);
            k.append(0, call % 60, 8, call);
            k.remove(0, call % 70);
            answered += k.count(4) >= 0 ? 1 : 0;
        }
        Check.due("calls beyond the 512th", answered, 2000);
    }

    /** No call may throw, for any arguments in any state: an exception ends this program. */
    private static void calledWithAnything() throws ReflectiveOperationException {
        int[] odd = {0, Integer.MAX_VALUE, -1, 60, 1, Integer.MIN_VALUE, 2, 31, 40, 24, 59, 9, 39, 200, 32, 5};
        for (Method method : LabelKernel.class.getDeclaredMethods()) {
            if (!Modifier.isPublic(method.getModifiers())) {
                continue;
            }
            int arity = method.getParameterCount();
            int values = arity < 4 ? odd.length : 11 - arity;
            int choices = (int) Math.pow(values, arity);
            LabelKernel busy = World.busy();
            LabelKernel spent = World.spent();
            Object[] args = new Object[arity];
            for (int choice = 0; choice < choices; choice++) {
                int rest = choice;
                for (int a = 0; a < arity; a++) {
                    args[a] = odd[rest % values];
                    rest /= values;
                }
                method.invoke(busy, args);
                method.invoke(spent, args);
            }
            Check.holds(method + " with anything", choices >= odd.length);
        }
    }
}
