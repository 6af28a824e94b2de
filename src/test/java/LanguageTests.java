import java.io.DataInputStream;
import java.io.IOException;
import java.io.InputStream;
import java.lang.reflect.Field;
import java.lang.reflect.Modifier;
import java.util.ArrayList;
import java.util.List;
import java.util.Set;

/** The rules of LANGUAGE.md that can be read from the compiled class, beside those of the face. */
public final class LanguageTests {
    private static final Set<String> LIBRARY = Set.of("java/lang/Object.<init>", "java/lang/System.arraycopy", "java/util/Arrays.copyOf",
        "java/util/Arrays.copyOfRange", "java/util/Arrays.fill");
    private static final Set<String> NUMBERS = Set.of("java/lang/Integer", "java/lang/Long", "java/lang/Math");
    private static final int MOST_CLASSES = 12;
    private static final int MOST_FIELDS = 20;

    // What the constants of a compiled class are marked with.
    private static final int TEXT = 1;
    private static final int LONG = 5;
    private static final int DOUBLE = 6;
    private static final int CLASS = 7;
    private static final int FIELD = 9;
    private static final int METHOD = 10;
    private static final int INTERFACE_METHOD = 11;
    private static final int NAME_AND_TYPE = 12;
    private static final int DYNAMIC_CALL = 18;

    private final String[] texts;
    private final int[] marks;
    private final int[] first;
    private final int[] second;

    public static void main(String[] args) throws IOException {
        List<Class<?>> classes = new ArrayList<>(List.of(SignedMill.class));
        classes.addAll(List.of(SignedMill.class.getDeclaredClasses()));
        Due.same("rule 11: so few classes", classes.size() <= MOST_CLASSES, true);
        for (Class<?> owner : classes) {
            Due.same("rule 2: " + owner + " holds no class", owner == SignedMill.class || owner.getDeclaredClasses().length == 0, true);
            fields(owner);
            try (InputStream in = owner.getResourceAsStream(owner.getName() + ".class")) {
                new LanguageTests(new DataInputStream(in)).check(owner.getName());
            }
        }
        Due.end("LanguageTests");
    }

    private static void fields(Class<?> owner) {
        int count = 0;
        for (Field field : owner.getDeclaredFields()) {
            Class<?> type = field.getType();
            boolean isStatic = Modifier.isStatic(field.getModifiers());
            count += isStatic ? 0 : 1;
            Due.same("rule 5: " + field, !isStatic || type == int.class || type == long.class, true);
        }
        Due.same("rule 11: so few fields in " + owner, count <= MOST_FIELDS, true);
    }

    /** Reads the constants of a compiled class, which name all that it uses. */
    private LanguageTests(DataInputStream in) throws IOException {
        in.skipNBytes(8);
        int count = in.readUnsignedShort();
        texts = new String[count];
        marks = new int[count];
        first = new int[count];
        second = new int[count];
        for (int i = 1; i < count; i++) {
            marks[i] = in.readUnsignedByte();
            switch (marks[i]) {
                case TEXT -> texts[i] = in.readUTF();
                case LONG, DOUBLE -> {
                    in.skipNBytes(8);
                    // These take two places.
                    i++;
                }
                case 15 -> in.skipNBytes(3);
                case CLASS, 8, 16, 19, 20 -> first[i] = in.readUnsignedShort();
                default -> {
                    first[i] = in.readUnsignedShort();
                    second[i] = in.readUnsignedShort();
                }
            }
        }
    }

    private void check(String owner) {
        for (int i = 1; i < marks.length; i++) {
            if (marks[i] == CLASS) {
                String name = texts[first[i]];
                Due.same("rule 6: " + owner + " uses " + name, name.endsWith("Exception") || name.endsWith("Error") || name.endsWith("Throwable"), false);
            }
            if (marks[i] == FIELD || marks[i] == METHOD || marks[i] == INTERFACE_METHOD) {
                String used = texts[first[first[i]]];
                Due.same("a name", marks[second[i]], NAME_AND_TYPE);
                String name = texts[first[second[i]]];
                String type = texts[second[second[i]]];
                Due.same("rule 4: " + owner + " uses " + used + "." + name + type, isAllowed(used, name, type), true);
            }
            Due.same("rule 2: " + owner + " has a lambda", marks[i] == DYNAMIC_CALL, false);
        }
    }

    private static boolean isAllowed(String owner, String name, String type) {
        if (owner.equals("SignedMill") || owner.startsWith("SignedMill$") || LIBRARY.contains(owner + "." + name)) {
            return true;
        }
        return NUMBERS.contains(owner) && type.matches("\\([IJ]+\\)[IJ]") && !name.endsWith("Exact");
    }
}
