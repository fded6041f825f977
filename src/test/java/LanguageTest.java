import java.io.DataInputStream;
import java.io.IOException;
import java.lang.reflect.Constructor;
import java.lang.reflect.Field;
import java.lang.reflect.Method;
import java.lang.reflect.Modifier;
import java.net.URI;
import java.net.URISyntaxException;
import java.nio.file.Files;
import java.nio.file.Path;
import java.util.ArrayList;
import java.util.List;
import java.util.Set;
import java.util.TreeSet;
import java.util.stream.Stream;

/** What LANGUAGE.md rules out, as far as the compiled class and those inside it tell. */
public final class LanguageTest {
    private static final Set<String> LIBRARY = Set.of("java.lang.Object", "java.lang.String",
            "java.lang.Math", "java.util.ArrayList", "java.util.Arrays",
            "java.util.NoSuchElementException");
    private static final Set<String> CALLS = Set.of("java.lang.Object.<init>", "java.lang.String.length",
            "java.lang.String.charAt", "java.lang.Math.min", "java.lang.Math.max",
            "java.util.ArrayList.<init>", "java.util.ArrayList.add", "java.util.ArrayList.get",
            "java.util.ArrayList.remove", "java.util.ArrayList.size", "java.util.ArrayList.isEmpty",
            "java.util.ArrayList.clear", "java.util.Arrays.copyOf", "java.util.Arrays.fill",
            "java.util.NoSuchElementException.<init>");
    private static final Set<String> FACE = Set.of("person", "house", "post", "club", "holds", "feed",
            "end", "text", "place", "value", "why", "quarrel", "fineOf", "hours", "days", "row",
            "good", "buys", "draws", "run", "ends", "undone", "asks", "give", "passed", "seen",
            "fines", "unlike", "flaw", "mends", "waits", "lasts", "lasting", "other", "bid", "sells",
            "buyer", "sold", "of", "houseOf", "count");
    private static final Set<String> THROWING = Set.of("value", "row", "of");

    public static void main(String[] args) throws IOException, URISyntaxException {
        face();
        List<Class<?>> classes = new ArrayList<>(List.of(FirmTown.class.getDeclaredClasses()));
        List<Path> files = classFiles();
        Check.due("class files", files.size() > classes.size(), true);
        for (Path file : files) {
            new ClassFile(file).check();
        }
        Check.due("classes are some twelve at most", classes.size() <= 12, true);
        classes.add(FirmTown.class);
        for (Class<?> c : classes) {
            members(c);
        }
        Check.close("LanguageTest");
    }

    /** Where this test was compiled to, other classes stand beside those of the program. */
    private static List<Path> classFiles() throws IOException, URISyntaxException {
        URI folder = FirmTown.class.getProtectionDomain().getCodeSource().getLocation().toURI();
        try (Stream<Path> files = Files.list(Path.of(folder))) {
            return files.filter(f -> f.getFileName().toString().matches("FirmTown(\\$.*)?\\.class")).toList();
        }
    }

    private static void face() {
        Check.due("public and final", FirmTown.class.getModifiers(), Modifier.PUBLIC | Modifier.FINAL);
        Set<String> names = new TreeSet<>();
        for (Method m : FirmTown.class.getDeclaredMethods()) {
            if (Modifier.isPublic(m.getModifiers())) {
                names.add(m.getName());
                Check.due("static " + m, Modifier.isStatic(m.getModifiers()), false);
                Check.due("throws of " + m, m.getExceptionTypes().length,
                        THROWING.contains(m.getName()) ? 1 : 0);
            } else {
                Check.due("private " + m, Modifier.isPrivate(m.getModifiers()), true);
            }
        }
        Check.due("the face " + names, names.equals(FACE), true);
        Constructor<?>[] constructors = FirmTown.class.getDeclaredConstructors();
        Check.due("constructors", constructors.length, 1);
        Check.due("public constructor", constructors[0].getModifiers(), Modifier.PUBLIC);
        for (Field f : FirmTown.class.getDeclaredFields()) {
            boolean isPrivate = Modifier.isPrivate(f.getModifiers());
            Check.due("private " + f, isPrivate, !f.getName().equals("NONE"));
        }
    }

    private static void members(Class<?> c) {
        boolean outer = c == FirmTown.class;
        Check.due("static " + c, outer || Modifier.isStatic(c.getModifiers()), true);
        Check.due("private " + c, outer || Modifier.isPrivate(c.getModifiers()), true);
        int fields = 0;
        for (Field f : c.getDeclaredFields()) {
            fields += Modifier.isStatic(f.getModifiers()) ? 0 : 1;
            boolean changes = Modifier.isStatic(f.getModifiers()) && !Modifier.isFinal(f.getModifiers());
            Check.due("static state " + f, changes, false);
        }
        Check.due("fields of " + c, fields <= 20, true);
        for (Method m : c.getDeclaredMethods()) {
            Check.due("parameters of " + m, m.getParameterCount() <= 7, true);
            boolean isFace = outer && Modifier.isPublic(m.getModifiers());
            Check.due("a name of the face: " + m, !isFace && FACE.contains(m.getName()), false);
        }
    }

    /** A compiled class: its pool of constants, and how many catches its methods have. */
    private static final class ClassFile {
        private final String name;
        private final int[] tags;
        private final int[] first;
        private final int[] second;
        private final String[] words;
        private int catches = 0;

        ClassFile(Path file) throws IOException {
            name = file.getFileName().toString();
            try (DataInputStream in = new DataInputStream(Files.newInputStream(file))) {
                in.skipNBytes(8);
                int size = in.readUnsignedShort();
                tags = new int[size];
                first = new int[size];
                second = new int[size];
                words = new String[size];
                readPool(in);
                in.skipNBytes(6);
                in.skipNBytes(2L * in.readUnsignedShort());
                readMembers(in);
                readMembers(in);
            }
        }

        private void readPool(DataInputStream in) throws IOException {
            for (int i = 1; i < tags.length; i++) {
                tags[i] = in.readUnsignedByte();
                switch (tags[i]) {
                    case 1 -> words[i] = in.readUTF();
                    case 3, 4 -> in.readInt();
                    case 5, 6 -> {
                        in.readLong();
                        i++;
                    }
                    case 7, 8, 16, 19, 20 -> first[i] = in.readUnsignedShort();
                    case 15 -> in.skipNBytes(3);
                    default -> {
                        first[i] = in.readUnsignedShort();
                        second[i] = in.readUnsignedShort();
                    }
                }
            }
        }

        private void readMembers(DataInputStream in) throws IOException {
            for (int n = in.readUnsignedShort(); n > 0; n--) {
                in.skipNBytes(6);
                for (int a = in.readUnsignedShort(); a > 0; a--) {
                    String attribute = words[in.readUnsignedShort()];
                    byte[] bytes = in.readNBytes(in.readInt());
                    if (attribute.equals("Code")) {
                        int behind = 8 + ((bytes[6] & 255) << 8 | bytes[7] & 255);
                        catches += (bytes[behind] & 255) << 8 | bytes[behind + 1] & 255;
                    }
                }
            }
        }

        private String classOf(int reference) {
            return words[first[reference]].replace('/', '.');
        }

        void check() {
            Check.due("catches of " + name, catches, 0);
            for (int i = 1; i < tags.length; i++) {
                boolean isDynamic = tags[i] == 17 || tags[i] == 18;
                Check.due("a call made as it runs, in " + name, isDynamic, false);
                boolean isLibrary = tags[i] == 7 && classOf(i).startsWith("java");
                if (isLibrary && !isOfInnerClasses(classOf(i))) {
                    Check.due(classOf(i) + " in " + name, LIBRARY.contains(classOf(i)), true);
                }
                if (tags[i] == 10 || tags[i] == 11) {
                    String call = classOf(first[i]) + "." + words[first[second[i]]];
                    boolean isOwn = call.startsWith("FirmTown");
                    Check.due(call + " in " + name, isOwn || CALLS.contains(call), true);
                }
            }
        }

        /** The compiler names this one where a class has classes inside. */
        private static boolean isOfInnerClasses(String library) {
            return library.startsWith("java.lang.invoke.MethodHandles");
        }
    }
}
