import java.io.DataInputStream;
import java.io.IOException;
import java.io.UncheckedIOException;
import java.lang.management.ManagementFactory;
import java.lang.reflect.Constructor;
import java.lang.reflect.Executable;
import java.lang.reflect.Field;
import java.lang.reflect.Modifier;
import java.util.ArrayList;
import java.util.List;
import java.util.Set;
import java.util.TreeSet;

/** Rules of LANGUAGE.md that can be seen in the compiled class, and what a run of calls makes. */
public final class LanguageTest {
    private static final Set<String> LIBRARY = Set.of("java/lang/Object", "java/lang/String", "java/lang/StringBuilder",
            "java/lang/Integer", "java/lang/Long", "java/lang/Math", "java/lang/System", "java/util/Arrays",
            "java/util/ArrayList", "java/util/List", "java/lang/IllegalStateException",
            "java/lang/IllegalArgumentException", "java/lang/IndexOutOfBoundsException",
            "java/util/NoSuchElementException");

    public static void main(String[] args) {
        Check.says("LANGUAGE.md 2: no lambda, no method reference", LanguageTest::noCallSites);
        Check.says("LANGUAGE.md 4: The library: only what stands here.", LanguageTest::library);
        Check.says("LANGUAGE.md 5: Static fields are final: constants of int", LanguageTest::staticFields);
        Check.says("LANGUAGE.md 11: at most seven parameters [..] at most some twelve classes", LanguageTest::sizes);
        Check.says("LANGUAGE.md 12: What a run makes is counted", LanguageTest::room);
        Check.end();
    }

    private static List<Class<?>> classes() {
        List<Class<?>> all = new ArrayList<>(List.of(CoinStrings.class.getDeclaredClasses()));
        all.add(CoinStrings.class);
        return all;
    }

    private static void noCallSites() {
        for (Class<?> one : classes()) {
            Check.same("call sites that are made while it runs, in " + one.getName(), pool(one).callSites(), 0);
        }
    }

    private static void library() {
        for (Class<?> one : classes()) {
            for (String name : pool(one).classNames()) {
                boolean own = name.equals("CoinStrings") || name.startsWith("CoinStrings$");
                Check.same("whether " + one.getName() + " may use " + name, own || LIBRARY.contains(name), true);
            }
        }
    }

    private static void staticFields() {
        for (Class<?> one : classes()) {
            for (Field field : one.getDeclaredFields()) {
                if (Modifier.isStatic(field.getModifiers())) {
                    Check.same("whether " + field + " is final", Modifier.isFinal(field.getModifiers()), true);
                    Check.same("the type of " + field, field.getType(), int.class);
                }
            }
        }
    }

    private static void sizes() {
        Check.same("whether there are at most 12 classes", classes().size() <= 12, true);
        for (Class<?> one : classes()) {
            int fields = 0;
            for (Field field : one.getDeclaredFields()) {
                fields += Modifier.isStatic(field.getModifiers()) ? 0 : 1;
            }
            Check.same("whether " + one.getName() + " has at most 20 fields", fields <= 20, true);
            List<Executable> bodies = new ArrayList<>(List.of(one.getDeclaredMethods()));
            bodies.addAll(List.<Constructor<?>>of(one.getDeclaredConstructors()));
            for (Executable body : bodies) {
                Check.same("whether " + body + " has at most 7 parameters", body.getParameterCount() <= 7, true);
            }
        }
    }

    /** What a long run makes is made with the object; its calls make nothing. */
    private static void room() {
        int warm = play(new CoinStrings());
        long before = made();
        CoinStrings x = new CoinStrings();
        long object = made() - before;
        int sum = play(x);
        long calls = made() - before - object;
        Check.same("the answers of the second run", sum, warm);
        Check.same("whether a new object of " + object + " bytes is small", object < 20_000, true);
        Check.same("whether 512 calls make nothing but " + calls + " bytes", calls < 2_000, true);
    }

    private static long made() {
        return ((com.sun.management.ThreadMXBean) ManagementFactory.getThreadMXBean()).getCurrentThreadAllocatedBytes();
    }

    /** A sum of the answers to some 512 calls. */
    private static int play(CoinStrings x) {
        int sum = 0;
        for (int calls = 0; calls + 19 <= 512; calls += 19) {
            x.clear();
            sum += x.board(2, 2);
            x.begin();
            sum += x.margin() + x.good() + x.nim() + x.mad() + x.play() + x.cut(6) + x.undo();
            sum += x.groups() + x.strings(3) + x.turn() + x.taken(0) + x.left();
            sum += x.show() + x.at(0) + x.at(1) + x.at(2);
        }
        return sum;
    }

    private record Pool(Set<String> classNames, int callSites) {
    }

    private static Pool pool(Class<?> one) {
        String file = one.getName() + ".class";
        try (DataInputStream in = new DataInputStream(CoinStrings.class.getResourceAsStream(file))) {
            in.skipBytes(8);
            return read(in);
        } catch (IOException e) {
            throw new UncheckedIOException(e);
        }
    }

    /** The constants of a class file, by the tags that its format gives them. */
    private static Pool read(DataInputStream in) throws IOException {
        int count = in.readUnsignedShort();
        String[] texts = new String[count];
        List<Integer> names = new ArrayList<>();
        int callSites = 0;
        for (int k = 1; k < count; k++) {
            int tag = in.readUnsignedByte();
            switch (tag) {
                case 1 -> texts[k] = in.readUTF();
                case 7 -> names.add(in.readUnsignedShort());
                case 8, 16, 19, 20 -> in.readUnsignedShort();
                case 15 -> in.skipBytes(3);
                case 5, 6 -> {
                    in.readLong();
                    // Long and double constants count twice.
                    k++;
                }
                default -> in.readInt();
            }
            callSites += tag == 17 || tag == 18 ? 1 : 0;
        }
        Set<String> classNames = new TreeSet<>();
        for (int name : names) {
            if (!texts[name].startsWith("[")) {
                classNames.add(texts[name]);
            }
        }
        return new Pool(classNames, callSites);
    }
}
