import java.lang.reflect.Field;
import java.lang.reflect.Method;
import java.lang.reflect.Modifier;
import java.util.ArrayList;
import java.util.Arrays;
import java.util.List;
import java.util.StringJoiner;
import java.util.TreeSet;

/** Promise 1, the constants, and the first rule of LANGUAGE.md: the face and nothing beside it. */
public final class NewObjectTest {
    private static final List<String> FACE = Arrays.asList("mode", "home", "command", "step", "speed", "ticks", "up",
        "snapshot", "crash", "trim", "ask", "read", "value", "at", "kept", "log", "logged", "session", "told", "count");

    /** What a method declares to throw: i IndexOutOfBounds, a IllegalArgument, s IllegalState, in the document's order. */
    private static final List<String> TYPES = Arrays.asList(
        "int mode(int, int) ia", "int home(int, int) i", "long command(int, int, int, int, int) ias",
        "int step(int, int) i", "int speed(int, int) ia", "int ticks(int) a", "boolean up(int, boolean) i",
        "int snapshot(int) i", "int crash(int) i", "int trim() ", "int ask(int, long, int, int, int, int) ias",
        "long read(int, int) i", "long value(int, int, int) i", "int at(int, int) i", "int kept(int, int) i",
        "int log(int, int) i", "int logged(int, int, int) i", "int session(int, int, int) i",
        "int told(long, int) ia", "int count(int) i");

    public static void main(String[] args) {
        sizesAreKept();
        otherNumbersAreTwo();
        allIsAtItsBeginning();
        constantsAreAsTold();
        faceIsAsTold();
        typesAreAsTold();
        Check.end();
    }

    private static void sizesAreKept() {
        for (int partitions = 1; partitions <= 3; partitions++) {
            for (int replicas = 1; replicas <= 4; replicas++) {
                hasSizes(new ReadSide(partitions, replicas), partitions, replicas);
            }
        }
    }

    private static void otherNumbersAreTwo() {
        for (int number : new int[] {0, -1, 5, 100, Integer.MAX_VALUE, Integer.MIN_VALUE}) {
            hasSizes(new ReadSide(number, 4), 2, 4);
            hasSizes(new ReadSide(3, number), 3, 2);
            hasSizes(new ReadSide(number, number), 2, 2);
        }
        hasSizes(new ReadSide(4, 1), 2, 1);
    }

    private static void hasSizes(ReadSide x, int partitions, int replicas) {
        String name = "of " + partitions + " partitions, " + replicas + " replicas: ";
        Check.same(name + "at the last", x.at(replicas - 1, partitions - 1), 0);
        Check.same(name + "log of the last", x.log(partitions - 1, 0), 0);
        Check.noSuch(name + "one replica more", () -> x.at(replicas, 0));
        Check.noSuch(name + "one partition more", () -> x.log(partitions, 0));
        x.command(0, 0, 29, 0, 1);
        Check.same(name + "item 29's log", x.log(29 % partitions, 0), 1);
        for (int replica = 0; replica < replicas; replica++) {
            Check.same(name + "up(" + replica + ")", x.up(replica, true), true);
        }
    }

    private static void allIsAtItsBeginning() {
        ReadSide x = new ReadSide(3, 4);
        for (int what = 0; what <= 4; what++) {
            Check.same("count(" + what + ") at first", x.count(what), 0);
        }
        for (int session = 0; session < 8; session++) {
            for (int partition = 0; partition < 3; partition++) {
                Check.same("WROTE at first", x.session(session, 0, partition), 0);
                Check.same("SAW at first", x.session(session, 1, partition), 0);
            }
            Check.same("home at first", x.home(session, 0), 0);
            Check.same("mode at first", x.mode(session, 0), 0);
        }
        for (int replica = 0; replica < 4; replica++) {
            Check.same("speed at first", x.speed(replica, 0), 0);
            Check.same("kept at first", x.kept(replica, 2), 0);
            for (int item = 0; item < 30; item++) {
                Check.same("stock at first", x.value(replica, 0, item), 0);
                Check.same("price at first", x.value(replica, 3, item), 1);
            }
        }
    }

    private static void constantsAreAsTold() {
        Check.same("WAITS", ReadSide.WAITS, 0);
        Check.same("DONE", ReadSide.DONE, 1);
        Check.same("FAILED", ReadSide.FAILED, 2);
    }

    private static void faceIsAsTold() {
        TreeSet<String> seen = new TreeSet<>();
        for (Method method : ReadSide.class.getDeclaredMethods()) {
            boolean isPublic = Modifier.isPublic(method.getModifiers());
            boolean isPrivate = Modifier.isPrivate(method.getModifiers());
            Check.note(isPublic || isPrivate, method + " is neither public nor private");
            Check.note(isPublic == FACE.contains(method.getName()), method + " bears a name that is not its to bear");
            seen.add(method.getName());
        }
        Check.note(seen.containsAll(FACE), "the face lacks a method: " + seen);
        for (Field field : ReadSide.class.getDeclaredFields()) {
            boolean constant = Arrays.asList("WAITS", "DONE", "FAILED").contains(field.getName());
            Check.same(field + " is public", Modifier.isPublic(field.getModifiers()), constant);
            Check.note(constant || Modifier.isPrivate(field.getModifiers()), field + " can be seen from outside");
        }
        Check.note(Modifier.isFinal(ReadSide.class.getModifiers()), "the class is not final");
        Check.same("constructors", ReadSide.class.getDeclaredConstructors().length, 1);
    }

    private static void typesAreAsTold() {
        List<String> due = new ArrayList<>(TYPES);
        for (Method method : ReadSide.class.getDeclaredMethods()) {
            if (Modifier.isPublic(method.getModifiers())) {
                Check.note(!Modifier.isStatic(method.getModifiers()), method + " is static");
                Check.note(due.remove(typesOf(method)), "not in the document's face: " + typesOf(method));
            }
        }
        Check.note(due.isEmpty(), "the face lacks " + due);
    }

    private static String typesOf(Method method) {
        StringJoiner types = new StringJoiner(", ", method.getReturnType() + " " + method.getName() + "(", ") ");
        for (Class<?> type : method.getParameterTypes()) {
            types.add(type.getName());
        }
        StringBuilder text = new StringBuilder(types.toString());
        for (Class<?> thrown : method.getExceptionTypes()) {
            text.append(thrown == IndexOutOfBoundsException.class ? 'i'
                : thrown == IllegalArgumentException.class ? 'a'
                : thrown == IllegalStateException.class ? 's' : '?');
        }
        return text.toString();
    }
}
