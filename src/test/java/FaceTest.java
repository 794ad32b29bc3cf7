import java.lang.reflect.Constructor;
import java.lang.reflect.Field;
import java.lang.reflect.Method;
import java.lang.reflect.Modifier;
import java.util.Arrays;
import java.util.TreeSet;
import java.util.stream.Collectors;

/** The face of the class is the document's: its constants, its constructor, its calls, and nothing else to be seen. */
final class FaceTest {
    private static final String CALLS = """
            int track(int)
            int point(int, int)
            int link(int, int, int, int)
            int exit(int, int, boolean)
            int wagon(int, int, int, int, int)
            int engine(boolean, int, int, int)
            int bar(int, int, boolean)
            int table(int, int)
            int route()
            int via(int, int, int, int)
            int load(int, int, int)
            int piece(int, int, int, int)
            int danger(int, int)
            int hold(int, int)
            int jam(int, int)
            int raise(int)
            int turn(int, int)
            int lock(int)
            int free(int)
            int couple(int, int)
            int part(int, int)
            int pull(int, int, int)
            int kick(int, int)
            int step(int)
            int test(int)
            int leave(int)
            int roll(int, int, int)
            int store(int, int)
            int rolled(int)
            int at(int, int)
            int thing(int, int)
            int pointed(int, int)
            int ask(int, int)
            int meet(int, int, int)
            int weigh(int)
            int share(int)
            int consist(int, int)
            int finding(int)
            int count(int)
            int trace(int)
            int undo()
            int back()
            long digest()
            int log(int, int)
            int room(int, int)
            int lay(boolean, int, int)
            int wipe()
            int plan(int)
            int move(int, int)
            int bound()
            int proof(int)
            int spoil(int, int)
            int check()
            """;

    private static int wrong = 0;

    public static void main(String[] args) throws IllegalAccessException {
        due("the class is", Modifier.toString(SwitchYard.class.getModifiers()), "public final");
        due("constants", constants(), "BAD=-1, FOUND=-2, FULL=-3, NONE=-4");
        due("constructors", constructors(), "public SwitchYard()");
        due("calls", calls().toString(), new TreeSet<>(CALLS.lines().toList()).toString());
        due("what else can be seen", seenBesides(), "");
        due("private methods with the name of a call", namesTwice(), "");
        System.out.println(wrong == 0 ? "the face is as due" : wrong + " things are not as due");
        if (wrong != 0) {
            System.exit(1);
        }
    }

    private static void due(String what, String got, String want) {
        if (!got.equals(want)) {
            wrong++;
            System.out.println(what + ": " + got + ", due is " + want);
        }
    }

    private static String constants() throws IllegalAccessException {
        TreeSet<String> all = new TreeSet<>();
        for (Field field : SwitchYard.class.getDeclaredFields()) {
            if (Modifier.toString(field.getModifiers()).equals("public static final") && field.getType() == int.class) {
                all.add(field.getName() + "=" + field.getInt(null));
            }
        }
        return String.join(", ", all);
    }

    private static String constructors() {
        return Arrays.stream(SwitchYard.class.getDeclaredConstructors()).map(Constructor::toString)
                .collect(Collectors.joining(", "));
    }

    private static TreeSet<String> calls() {
        TreeSet<String> all = new TreeSet<>();
        for (Method method : SwitchYard.class.getDeclaredMethods()) {
            if (Modifier.toString(method.getModifiers()).equals("public")) {
                String types = Arrays.stream(method.getParameterTypes()).map(Class::getName)
                        .collect(Collectors.joining(", "));
                all.add(method.getReturnType().getName() + " " + method.getName() + "(" + types + ")");
            }
        }
        return all;
    }

    private static String seenBesides() {
        TreeSet<String> all = new TreeSet<>();
        for (Method method : SwitchYard.class.getDeclaredMethods()) {
            boolean isCall = Modifier.toString(method.getModifiers()).equals("public");
            if (!isCall && !Modifier.isPrivate(method.getModifiers()) && !method.isSynthetic()) {
                all.add(method.toString());
            }
        }
        for (Field field : SwitchYard.class.getDeclaredFields()) {
            boolean isConstant = Modifier.toString(field.getModifiers()).equals("public static final");
            if (!isConstant && !Modifier.isPrivate(field.getModifiers()) && !field.isSynthetic()) {
                all.add(field.toString());
            }
        }
        return String.join(", ", all);
    }

    private static String namesTwice() {
        TreeSet<String> names = new TreeSet<>();
        for (String call : calls()) {
            names.add(call.substring(call.indexOf(' ') + 1, call.indexOf('(')));
        }
        TreeSet<String> twice = new TreeSet<>();
        for (Method method : SwitchYard.class.getDeclaredMethods()) {
            if (Modifier.isPrivate(method.getModifiers()) && names.contains(method.getName())) {
                twice.add(method.getName());
            }
        }
        return String.join(", ", twice);
    }
}
