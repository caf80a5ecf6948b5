import java.lang.reflect.Constructor;
import java.lang.reflect.Field;
import java.lang.reflect.Method;
import java.lang.reflect.Modifier;
import java.util.Set;
import java.util.TreeSet;

/** The public face, and that calls make no objects: all rows are made by the constructor. */
public final class FaceTest {
    private static final Set<String> FACE = Set.of("boolean type(int)", "void clear()", "int name()", "int put(int)",
            "int add(int,int,int)", "boolean entry(int,int)", "int folder(int)", "int bytes(int,int)",
            "int raw(int,int,int)", "int length(int,int)", "int read(int,int,int)", "int find(int,int,int)",
            "boolean pin(int,int,boolean,boolean)", "int collect(int)", "int blocks(int)", "int fetch(int,int,int)",
            "int retry(int)", "int deliver(int)", "boolean harm(int,int,int)", "int message(int,int)",
            "int waiting()", "int state(int)");

    public static void main(String[] args) {
        Check check = new Check();
        face(check);
        noObjects(check);
        check.finish();
    }

    private static void face(Check check) {
        check.part("the face");
        Class<?> face = BlockExchange.class;
        check.due("public", Modifier.isPublic(face.getModifiers()), true);
        check.due("final", Modifier.isFinal(face.getModifiers()), true);
        Set<String> seen = new TreeSet<>();
        Set<String> hidden = new TreeSet<>();
        for (Method method : face.getDeclaredMethods()) {
            String text = method.toString().replace("BlockExchange.", "");
            if (Modifier.isPrivate(method.getModifiers())) {
                hidden.add(method.getName());
            } else {
                seen.add(text.replace("public ", ""));
            }
        }
        check.due("the methods", seen.toString(), new TreeSet<>(FACE).toString());
        for (String text : FACE) {
            String name = text.substring(text.indexOf(' ') + 1, text.indexOf('('));
            check.due("a private method " + name, hidden.contains(name), false);
        }
        for (Field field : face.getDeclaredFields()) {
            check.due("a private field", Modifier.isPrivate(field.getModifiers()), true);
        }
        Constructor<?>[] made = face.getDeclaredConstructors();
        check.due("constructors", made.length, 1);
        check.due("parameters of the constructor", made[0].getParameterCount(), 0);
        check.due("a public constructor", Modifier.isPublic(made[0].getModifiers()), true);
    }

    private static long allocated() {
        com.sun.management.ThreadMXBean bean =
                (com.sun.management.ThreadMXBean) java.lang.management.ManagementFactory.getThreadMXBean();
        return bean.getCurrentThreadAllocatedBytes();
    }

    private static void noObjects(Check check) {
        check.part("objects that calls make");
        someCalls();
        BlockExchange x = new BlockExchange();
        long before = allocated();
        manyCalls(x);
        long bytes = allocated() - before;
        // The measuring makes a few hundred bytes of its own.
        check.due("calls make objects, bytes " + bytes, bytes > 4000, false);
    }

    private static void someCalls() {
        manyCalls(new BlockExchange());
        allocated();
    }

    private static void manyCalls(BlockExchange x) {
        for (int i = 0; i < 32; i++) {
            x.type(i);
        }
        int file = x.add(0, 1, 2);
        for (int i = 1; i <= 16; i++) {
            x.entry(16 * i - 1, file);
        }
        int top = x.folder(0);
        for (int i = 1; i <= 16; i++) {
            x.entry(16 * i - 1, file);
        }
        top = x.folder(1);
        x.pin(0, file, true, true);
        x.collect(0);
        x.fetch(2, 0, file);
        for (int i = 0; i < 130; i++) {
            x.deliver(0);
            x.harm(3, 1, 1);
            x.retry(2);
        }
        x.read(2, file, 31);
        x.find(1, top, 15);
        x.collect(2);
    }
}
