import java.io.DataInputStream;
import java.io.IOException;
import java.io.InputStream;
import java.lang.management.ManagementFactory;
import java.lang.reflect.Constructor;
import java.lang.reflect.Field;
import java.lang.reflect.Member;
import java.lang.reflect.Method;
import java.lang.reflect.Modifier;
import java.nio.file.Files;
import java.nio.file.Path;
import java.util.ArrayList;
import java.util.Arrays;
import java.util.List;
import java.util.Set;
import java.util.TreeSet;

/**
 * The face of the class, those rules of LANGUAGE.md that can be read from the source and the class files,
 * and what the calls make. The first argument is the source's path.
 */
public final class FaceAndLanguage {
    private static final Set<String> FACE = Set.of("lot 2", "taste 2", "top 1", "pass 1", "bottle 1", "buyer 0",
        "sell 4", "trade 5", "redeem 3", "set 2", "lotOf 2", "barrel 2", "holding 3", "account 1", "entry 2",
        "cases 2", "sellable 1", "deadline 1", "topping 1", "loser 2", "count 1", "undo 0", "type 1", "clearText 0",
        "fault 1", "play 0");
    private static final Set<String> CONSTANTS = Set.of("INVALID_ARGUMENT -2000000001", "NOT_POSSIBLE -2000000002",
        "LIMIT_REACHED -2000000003", "NOT_FOUND -2000000004");
    private static final Set<String> LIBRARY = Set.of("java/lang/Object.<init>", "java/lang/Math.min",
        "java/lang/Math.max");
    private static final String[] NOT_IN_SOURCE = {"import ", "->", "::", "synchronized", "assert ", "finally",
        "catch", "throw", "Exact", "equals(", "hashCode", "toString", "package ", "record "};
    private static final int MOST_BYTES_A_RUN = 200000;
    private static final char[] SOME_ORDERS = "m1;t0,50;s0,0,1,1;".toCharArray();

    public static void main(String[] args) throws Exception {
        int passed = 0;
        int failed = 0;
        for (int i = 0; i < 5; i++) {
            Checks t = new Checks("face and language " + i);
            switch (i) {
                case 0: face(t); break;
                case 1: classes(t); break;
                case 2: library(t); break;
                case 3: source(t, Files.readString(Path.of(args[0]))); break;
                default: room(t); break;
            }
            if (t.passed()) {
                passed++;
            } else {
                failed++;
            }
        }
        System.out.println(passed + " passed, " + failed + " failed");
        if (failed != 0) {
            System.exit(1);
        }
    }

    private static boolean compiled(Member member) {
        return !member.isSynthetic() && !Modifier.isPrivate(member.getModifiers());
    }

    private static void face(Checks t) throws Exception {
        Set<String> methods = new TreeSet<>();
        for (Method method : WineFutures.class.getDeclaredMethods()) {
            if (compiled(method)) {
                methods.add(method.getName() + " " + method.getParameterCount());
                t.that(method.getName() + " is public", Modifier.isPublic(method.getModifiers()));
                t.that(method.getName() + " is no static one", !Modifier.isStatic(method.getModifiers()));
                t.that(method.getName() + " answers an int", method.getReturnType() == int.class);
                for (Class<?> type : method.getParameterTypes()) {
                    t.that(method.getName() + " takes ints", type == int.class);
                }
            }
        }
        t.that("methods: " + methods, methods.equals(FACE));
        Set<String> constants = new TreeSet<>();
        for (Field field : WineFutures.class.getDeclaredFields()) {
            if (compiled(field)) {
                constants.add(field.getName() + " " + field.getInt(null));
                t.due(field.getName(), field.getModifiers(), Modifier.PUBLIC | Modifier.STATIC | Modifier.FINAL);
            }
        }
        t.that("constants: " + constants, constants.equals(CONSTANTS));
        Constructor<?>[] made = WineFutures.class.getDeclaredConstructors();
        t.due("constructors", made.length, 1);
        t.due("constructor", made[0].getModifiers(), Modifier.PUBLIC);
        t.due("its arguments", made[0].getParameterCount(), 0);
        t.due("the class", WineFutures.class.getModifiers(), Modifier.PUBLIC | Modifier.FINAL);
        t.that("no package", WineFutures.class.getPackageName().isEmpty());
    }

    private static List<Class<?>> allClasses() {
        List<Class<?>> all = new ArrayList<>();
        all.add(WineFutures.class);
        all.addAll(Arrays.asList(WineFutures.class.getDeclaredClasses()));
        return all;
    }

    private static void classes(Checks t) {
        List<Class<?>> all = allClasses();
        t.that("at most twelve classes", all.size() <= 12);
        Set<String> names = new TreeSet<>();
        for (String name : FACE) {
            names.add(name.substring(0, name.indexOf(' ')));
        }
        for (Class<?> one : all) {
            int fields = 0;
            for (Field field : one.getDeclaredFields()) {
                boolean isStatic = Modifier.isStatic(field.getModifiers());
                fields += isStatic ? 0 : 1;
                t.that(field + " is final if static", !isStatic || Modifier.isFinal(field.getModifiers()));
            }
            t.that(one + " has some twenty fields", fields <= 20);
            t.that(one + " is static inside", one == WineFutures.class || Modifier.isStatic(one.getModifiers()));
            for (Method method : one.getDeclaredMethods()) {
                t.that(method + " takes at most seven", method.getParameterCount() <= 7);
                t.that(method + " has a name of its own", Modifier.isPublic(method.getModifiers())
                    || !names.contains(method.getName()));
            }
        }
    }

    /** Each class file's constants name all methods of the library that it calls. */
    private static void library(Checks t) throws IOException {
        for (Class<?> one : allClasses()) {
            try (InputStream file = one.getResourceAsStream("/" + one.getName() + ".class");
                    DataInputStream in = new DataInputStream(file)) {
                for (String call : libraryCalls(in, one, t)) {
                    t.that(one + " calls " + call, LIBRARY.contains(call));
                }
            }
        }
    }

    private static Set<String> libraryCalls(DataInputStream in, Class<?> one, Checks t) throws IOException {
        in.skipBytes(8);
        int size = in.readUnsignedShort();
        int[][] parts = new int[size][];
        String[] texts = new String[size];
        for (int i = 1; i < size; i++) {
            int tag = in.readUnsignedByte();
            switch (tag) {
                case 1: texts[i] = in.readUTF(); break;
                case 3: case 4: in.readInt(); break;
                case 5: case 6: in.readLong(); i++; break;
                case 7: case 8: case 16: case 19: case 20: parts[i] = new int[] {tag, in.readUnsignedShort(), 0}; break;
                case 15: in.skipBytes(3); break;
                default: parts[i] = new int[] {tag, in.readUnsignedShort(), in.readUnsignedShort()}; break;
            }
            t.that(one + " has no call that is made at run time", tag != 17 && tag != 18);
        }
        Set<String> calls = new TreeSet<>();
        for (int[] part : parts) {
            if (part != null && (part[0] == 10 || part[0] == 11)) {
                String owner = texts[parts[part[1]][1]];
                if (!owner.startsWith("WineFutures") && !owner.startsWith("[")) {
                    calls.add(owner + "." + texts[parts[part[2]][1]]);
                }
            }
        }
        return calls;
    }

    private static void source(Checks t, String source) {
        for (String text : NOT_IN_SOURCE) {
            t.due("\"" + text + "\" stands at", source.indexOf(text), -1);
        }
        String[] lines = source.split("\n");
        int start = -1;
        for (int i = 0; i < lines.length; i++) {
            t.that("line " + (i + 1) + " has plain signs", lines[i].chars().allMatch(c -> c >= 32 && c < 127));
            boolean method = lines[i].matches(" {4,8}\\S.*\\) \\{");
            boolean end = lines[i].matches(" {4,8}}");
            if (method) {
                start = i;
            }
            t.that("the method at line " + (start + 1) + " is short", !end || start < 0 || i - start <= 60);
            if (end) {
                start = -1;
            }
        }
    }

    /** Rows are made by the constructor alone, so that what a run makes stays small. */
    private static void room(Checks t) {
        com.sun.management.ThreadMXBean counter =
            (com.sun.management.ThreadMXBean) ManagementFactory.getThreadMXBean();
        for (int i = 0; i < 3; i++) {
            callAll(new WineFutures());
        }
        long before = counter.getCurrentThreadAllocatedBytes();
        callAll(new WineFutures());
        long made = counter.getCurrentThreadAllocatedBytes() - before;
        t.that(made + " bytes are made in a run", made < MOST_BYTES_A_RUN);
    }

    private static void callAll(WineFutures x) {
        x.buyer();
        x.buyer();
        x.lot(12, 1);
        for (char sign : SOME_ORDERS) {
            x.type(sign);
        }
        for (int i = 0; i < 40; i++) {
            x.sell(0, 0, 2, i);
            x.trade(0, 0, 1, 1, i);
            x.taste(0, i);
            x.fault(i % 3);
            x.play();
            x.deadline(0);
            x.topping(0);
            x.loser(0, 0);
            x.holding(0, 0, 3);
            x.undo();
            x.top(0);
            x.pass(1);
        }
        x.bottle(0);
        x.redeem(0, 1, 1);
    }
}
