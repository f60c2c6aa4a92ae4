import java.io.DataInputStream;
import java.io.IOException;
import java.io.InputStream;
import java.util.ArrayList;
import java.util.List;
import java.util.Set;
import java.util.TreeSet;

/** What a class file's pool of constants tells: the methods that are called and the kinds of constants. */
final class ClassFile {
    private static final int UTF8 = 1;
    private static final int LONG = 5;
    private static final int DOUBLE = 6;
    private static final int CLASS = 7;
    private static final int METHOD = 10;
    private static final int INTERFACE_METHOD = 11;
    private static final int NAME_AND_TYPE = 12;
    private static final int METHOD_HANDLE = 15;

    private final int[] kinds;
    private final int[] firsts;
    private final int[] seconds;
    private final String[] words;

    ClassFile(Class<?> one) throws IOException {
        try (InputStream file = one.getResourceAsStream("/" + one.getName() + ".class");
                DataInputStream in = new DataInputStream(file)) {
            in.skipNBytes(8);
            int count = in.readUnsignedShort();
            kinds = new int[count];
            firsts = new int[count];
            seconds = new int[count];
            words = new String[count];
            for (int index = 1; index < count; index++) {
                readOne(in, index);
                // A long or a double takes two places of the pool.
                index += kinds[index] == LONG || kinds[index] == DOUBLE ? 1 : 0;
            }
        }
    }

    private void readOne(DataInputStream in, int index) throws IOException {
        int kind = in.readUnsignedByte();
        kinds[index] = kind;
        if (kind == UTF8) {
            words[index] = in.readUTF();
        } else if (kind == LONG || kind == DOUBLE) {
            in.skipNBytes(8);
        } else if (kind == METHOD_HANDLE) {
            in.skipNBytes(3);
        } else {
            firsts[index] = in.readUnsignedShort();
            // A class, a string, a method's type, a module and a package have one part, all others two.
            boolean hasOne = kind == CLASS || kind == 8 || kind == 16 || kind == 19 || kind == 20;
            seconds[index] = hasOne ? 0 : in.readUnsignedShort();
        }
    }

    /** The methods that are called, as in "java/lang/Math.max (II)I". */
    List<String> called() {
        List<String> called = new ArrayList<>();
        for (int index = 1; index < kinds.length; index++) {
            if (kinds[index] == METHOD || kinds[index] == INTERFACE_METHOD) {
                int name = seconds[index];
                called.add(words[firsts[firsts[index]]] + "." + words[firsts[name]] + " " + words[seconds[name]]);
            }
        }
        return called;
    }

    /** The classes that are named, those of arrays by their signs. */
    Set<String> classes() {
        Set<String> found = new TreeSet<>();
        for (int index = 1; index < kinds.length; index++) {
            if (kinds[index] == CLASS) {
                found.add(words[firsts[index]]);
            }
        }
        return found;
    }

    /** Whether a call is bound while the program runs, as those of lambdas and of texts joined by + are. */
    boolean bindsCalls() {
        for (int kind : kinds) {
            if (kind > NAME_AND_TYPE && kind < 19) {
                return true;
            }
        }
        return false;
    }
}
