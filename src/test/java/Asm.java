import java.util.Arrays;
import java.util.List;

/** Writes CODES from lines such as "VAR 0 1", so that tests can be read. */
final class Asm {
    static final List<String> NAMES = Arrays.asList(
            "NUMBER", "SPECIAL", "DROP", "DUP", "SWAP", "VAR", "SET", "THIS",
            "GET", "PUT", "GETAT", "PUTAT", "DELETE", "HAS", "OBJECT", "ARRAY",
            "FUNCTION", "CALL", "NEW", "GIVE", "THROW", "TRY", "DONE", "JUMP",
            "IF", "ADD", "SUB", "LESS", "SAME", "IS", "OF", "SEAL");

    private Asm() {
    }

    static void write(ObjectCore x, int code, boolean strict, String... lines) {
        x.code(code, strict);
        int count = 0;
        for (String line : lines) {
            String[] words = line.trim().split(" +");
            int op = NAMES.indexOf(words[0]);
            int a = words.length > 1 ? Integer.parseInt(words[1]) : 0;
            int b = words.length > 2 ? Integer.parseInt(words[2]) : 0;
            count++;
            Due.is("add of " + line, x.add(code, op, a, b), count);
        }
    }

    /** The number of a new FUNCTION with this CODE. */
    static int function(ObjectCore x, int code, boolean strict, String... lines) {
        write(x, code, strict, lines);
        int made = x.make(2, code);
        Due.is("make of a FUNCTION", made >= 3, true);
        return made;
    }

    /** Calls a FUNCTION with these lines on a new object; THIS is OBJECT 0, the ARGUMENT OBJECT 1. */
    static void due(int end, long result, String... lines) {
        due(false, end, result, lines);
    }

    static void dueStrict(int end, long result, String... lines) {
        due(true, end, result, lines);
    }

    private static void due(boolean strict, int end, long result, String... lines) {
        ObjectCore x = new ObjectCore();
        int function = function(x, 0, strict, lines);
        int got = x.call(function, Due.object(0), Due.object(1));
        Due.ends((strict ? "STRICT " : "") + String.join("; ", lines), x, got, end, result);
    }

    /** Lines that push the NUMBERS 0, 1, .. up to this height, and then these lines. */
    static String[] onto(int height, String... lines) {
        String[] pushing = new String[height];
        for (int i = 0; i < height; i++) {
            pushing[i] = "NUMBER " + i;
        }
        return join(pushing, lines);
    }

    static String[] join(String[] first, String... second) {
        String[] all = Arrays.copyOf(first, first.length + second.length);
        System.arraycopy(second, 0, all, first.length, second.length);
        return all;
    }
}
