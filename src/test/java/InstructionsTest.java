/** Promise 8: what each instruction does, and promise 18 on them. */
public final class InstructionsTest {
    private static final long BASE = Due.object(0);
    private static final long ARGUMENT = Due.object(1);
    private static final int R = Due.RETURNED;
    private static final int T = Due.THROWN;

    public static void main(String[] args) {
        stack();
        stackLimits();
        variables();
        closures();
        getAndPut();
        getAtAndPutAt();
        putPushesTheValue();
        deletes();
        has();
        makes();
        makesWithoutRoom();
        makesOntoTen();
        numbers();
        sameIsOf();
        kin();
        seal();
        jumps();
        Due.end("InstructionsTest");
    }

    private static void stack() {
        Asm.due(R, 5, "NUMBER 5", "GIVE");
        for (int special = 0; special < 6; special++) {
            Asm.due(R, Due.UNDEFINED + special, "SPECIAL " + special, "GIVE");
        }
        Asm.due(R, 1, "NUMBER 1", "NUMBER 2", "DROP", "GIVE");
        Asm.due(R, 4, "NUMBER 2", "DUP", "ADD", "GIVE");
        Asm.due(R, 2, "NUMBER 5", "NUMBER 7", "SWAP", "SUB", "GIVE");
        Asm.due(R, BASE, "THIS", "GIVE");
        Asm.due(R, Due.UNDEFINED, "THIS");
        Asm.due(R, Due.UNDEFINED, "GIVE");
        Asm.due(R, Due.UNDEFINED, "DROP", "DROP", "GIVE");
        Asm.due(R, Due.UNDEFINED, "NUMBER 3", "SWAP", "GIVE");
        Asm.due(R, 3, "NUMBER 3", "SWAP", "DROP", "GIVE");
        Asm.due(R, Due.TRUE, "DUP", "SAME", "GIVE");
        Asm.due(R, 9, "NUMBER 9", "DUP", "DROP", "GIVE");
        Asm.due(T, Due.UNDEFINED, "THROW");
        Asm.due(T, 6, "NUMBER 6", "THROW");
    }

    private static void stackLimits() {
        Asm.due(R, 9, Asm.onto(10, "GIVE"));
        Asm.due(T, Due.RANGE, Asm.onto(11, "GIVE"));
        Asm.due(T, Due.RANGE, Asm.onto(10, "DUP"));
        Asm.due(R, 8, Asm.onto(9, "DUP", "GIVE"));
        Asm.due(R, 8, Asm.onto(10, "SWAP", "GIVE"));
        Asm.due(T, Due.RANGE, Asm.onto(10, "THIS"));
        Asm.due(T, Due.RANGE, Asm.onto(10, "VAR 0 0"));
        Asm.due(T, Due.RANGE, Asm.onto(10, "VAR 3 0"));
        Asm.due(T, Due.RANGE, Asm.onto(10, "SPECIAL 0"));
        Asm.due(R, 17, Asm.onto(10, "ADD", "GIVE"));
        Asm.due(R, 3, Asm.onto(10, "OF", "GIVE"));
        Asm.due(R, 9, Asm.onto(10, "SEAL 0", "GIVE"));
        // DUP leaves the first one: a HANDLER at its height finds no room for what was thrown.
        Asm.due(R, 8, Asm.onto(9, "TRY 12", "NUMBER 70", "DUP", "DROP", "GIVE"));
        Asm.due(T, Due.RANGE, Asm.onto(10, "TRY 13", "DUP", "NUMBER 1", "GIVE"));
    }

    private static void variables() {
        Asm.due(R, ARGUMENT, "VAR 0 0", "GIVE");
        Asm.due(R, Due.UNDEFINED, "VAR 0 1", "GIVE");
        Asm.due(R, Due.UNDEFINED, "VAR 1 0", "GIVE");
        Asm.due(R, Due.UNDEFINED, "VAR 3 3", "GIVE");
        Asm.due(R, 4, "NUMBER 4", "SET 0 3", "VAR 0 3", "GIVE");
        Asm.due(R, ARGUMENT, "NUMBER 4", "SET 0 3", "VAR 0 0", "GIVE");
        Asm.due(R, Due.UNDEFINED, "SET 0 0", "VAR 0 0", "GIVE");
        Asm.due(R, Due.UNDEFINED, "NUMBER 4", "SET 1 3", "VAR 0 3", "GIVE");
        // The VALUE is popped also where there is no such ACTIVATION.
        Asm.due(R, 3, "NUMBER 3", "NUMBER 4", "SET 1 3", "GIVE");
    }

    private static void closures() {
        ObjectCore x = new ObjectCore();
        int outer = Asm.function(x, 0, false, "FUNCTION 1", "GIVE");
        Asm.write(x, 1, false, "VAR 1 0", "NUMBER 1", "ADD", "DUP", "SET 1 0", "GIVE");
        x.call(outer, 0, 10);
        int first = (int) (x.result() - Due.object(0));
        x.call(outer, 0, 20);
        int second = (int) (x.result() - Due.object(0));
        Due.ends("first", x, x.call(first, 0, 99), R, 11);
        Due.ends("first again", x, x.call(first, 0, 99), R, 12);
        Due.ends("second", x, x.call(second, 0, 99), R, 21);
        Due.ends("first once more", x, x.call(first, 0, 99), R, 13);
        Due.is("two ACTIVATIONS stay", x.state(1), 2);
        Due.is("a FUNCTION", x.of(first, 0), 2);
        Due.is("its PROTOTYPE", x.of(first, 1), 1);
        x = new ObjectCore();
        outer = Asm.function(x, 0, false, "NUMBER 7", "SET 0 2", "FUNCTION 1", "THIS", "CALL 0", "GIVE");
        Asm.write(x, 1, false, "NUMBER 8", "SET 0 2", "FUNCTION 2", "THIS", "CALL 0", "GIVE");
        Asm.write(x, 2, false, "NUMBER 9", "SET 0 2", "NUMBER 0", "VAR 2 2", "ADD", "VAR 1 2", "ADD",
                "VAR 0 2", "ADD", "NUMBER 50", "SET 3 2", "VAR 3 2", "SPECIAL 0", "SAME", "IF 15", "GIVE", "GIVE");
        Due.ends("three around each other", x, x.call(outer, 0, 0), R, 24);
    }

    private static void getAndPut() {
        Asm.due(R, 6, "OBJECT", "DUP", "NUMBER 6", "PUT 31", "DROP", "GET 31", "GIVE");
        Asm.due(R, Due.UNDEFINED, "OBJECT", "GET 3", "GIVE");
        Asm.due(T, Due.TYPE, "SPECIAL 0", "GET 3");
        Asm.due(T, Due.TYPE, "SPECIAL 1", "GET 3");
        Asm.due(T, Due.TYPE, "GET 3");
        Asm.due(T, Due.TYPE, "SPECIAL 0", "NUMBER 1", "PUT 3");
        Asm.due(T, Due.TYPE, "SPECIAL 1", "NUMBER 1", "PUT 3");
        for (int special = 2; special < 6; special++) {
            Asm.due(R, Due.UNDEFINED, "SPECIAL " + special, "GET 3", "GIVE");
            Asm.due(R, 1, "SPECIAL " + special, "NUMBER 1", "PUT 3", "GIVE");
        }
        Asm.due(R, Due.UNDEFINED, "NUMBER 0", "GET 3", "GIVE");
        Asm.due(R, 1, "NUMBER 0", "NUMBER 1", "PUT 3", "GIVE");
        Asm.dueStrict(T, Due.TYPE, "NUMBER 0", "NUMBER 1", "PUT 3", "GIVE");
        Asm.dueStrict(T, Due.TYPE, "SPECIAL 3", "NUMBER 1", "PUT 3", "GIVE");
        Asm.dueStrict(R, Due.UNDEFINED, "SPECIAL 3", "GET 3", "GIVE");
        Asm.due(R, 1, "OBJECT", "SEAL 0", "NUMBER 1", "PUT 3", "GIVE");
        Asm.dueStrict(T, Due.TYPE, "OBJECT", "SEAL 0", "NUMBER 1", "PUT 3", "GIVE");
        Asm.due(T, Due.RANGE, "ARRAY 0", "NUMBER 17", "PUT 16");
        Asm.due(T, Due.RANGE, "ARRAY 0", "SPECIAL 0", "PUT 16");
        Asm.dueStrict(T, Due.TYPE, "ARRAY 0", "SEAL 2", "SPECIAL 0", "PUT 16");
        Asm.due(R, Due.UNDEFINED, "ARRAY 0", "SEAL 2", "SPECIAL 0", "PUT 16", "GIVE");
    }

    private static void getAtAndPutAt() {
        Asm.due(R, 6, "OBJECT", "DUP", "NUMBER 31", "NUMBER 6", "PUTAT", "DROP", "NUMBER 31", "GETAT", "GIVE");
        Asm.due(R, 6, "OBJECT", "DUP", "NUMBER 0", "NUMBER 6", "PUTAT", "DROP", "GET 0", "GIVE");
        Asm.due(R, 6, "OBJECT", "NUMBER 0", "NUMBER 6", "PUTAT", "GIVE");
        String[] wrong = {"NUMBER -1", "NUMBER 32", "NUMBER -2147483648", "SPECIAL 0", "SPECIAL 3", "OBJECT"};
        for (String key : wrong) {
            Asm.due(T, Due.TYPE, "OBJECT", key, "GETAT");
            Asm.due(T, Due.TYPE, "OBJECT", key, "NUMBER 1", "PUTAT");
            Asm.due(T, Due.TYPE, "NUMBER 3", key, "GETAT");
            // The BASE is not popped then: it stands below what was thrown.
            Asm.due(R, 44, "NUMBER 44", key, "TRY 5", "GETAT", "GIVE", "DROP", "GIVE");
            Asm.due(R, 44, "NUMBER 44", key, "NUMBER 1", "TRY 6", "PUTAT", "GIVE", "DROP", "GIVE");
        }
        // The BASE is popped where the KEY is one.
        Asm.due(R, 44, "NUMBER 44", "SPECIAL 0", "NUMBER 1", "TRY 6", "GETAT", "GIVE", "DROP", "GIVE");
        Asm.due(R, 44, "NUMBER 44", "SPECIAL 0", "TRY 5", "GET 2", "GIVE", "DROP", "GIVE");
        Asm.dueStrict(T, Due.TYPE, "NUMBER 1", "NUMBER 2", "NUMBER 3", "PUTAT");
        Asm.due(R, 3, "NUMBER 1", "NUMBER 2", "NUMBER 3", "PUTAT", "GIVE");
    }

    private static void putPushesTheValue() {
        ObjectCore x = new ObjectCore();
        int setter = Asm.function(x, 0, false, "NUMBER 70", "GIVE");
        x.accessor(0, 5, setter, setter, 9);
        int function = Asm.function(x, 1, false, "NUMBER 1", "THIS", "NUMBER 2", "PUT 5", "ADD", "GIVE");
        Due.ends("what a SETTER gives is dropped", x, x.call(function, Due.object(2), 0), R, 3);
        Due.is("two FRAMES", x.state(3), 2);
        function = Asm.function(x, 2, false, "NUMBER 1", "THIS", "GET 5", "ADD", "GIVE");
        Due.ends("what a GETTER gives is pushed", x, x.call(function, Due.object(2), 0), R, 71);
        Due.is("seven instructions", x.state(2), 7);
    }

    private static void deletes() {
        Asm.due(R, Due.FALSE, "THIS", "SEAL 0", "DROP", "THIS", "NUMBER 1", "PUT 0", "DROP", "THIS", "HAS 0", "GIVE");
        Asm.due(R, Due.TRUE, "THIS", "NUMBER 1", "PUT 0", "DROP", "THIS", "HAS 0", "GIVE");
        Asm.due(R, Due.FALSE, "THIS", "NUMBER 1", "PUT 0", "DROP", "THIS", "SEAL 1", "DELETE 0", "GIVE");
        Asm.due(R, Due.TRUE, "OBJECT", "DELETE 3", "GIVE");
        Asm.due(R, Due.FALSE, "OBJECT", "DUP", "NUMBER 1", "PUT 3", "DROP", "DUP", "DELETE 3", "DROP", "HAS 3", "GIVE");
        Asm.due(R, Due.FALSE, "ARRAY 0", "DELETE 16", "GIVE");
        Asm.due(R, Due.TRUE, "ARRAY 0", "DUP", "DELETE 16", "DROP", "HAS 16", "GIVE");
        Asm.dueStrict(T, Due.TYPE, "ARRAY 0", "DELETE 16", "GIVE");
        Asm.dueStrict(R, Due.TRUE, "ARRAY 0", "DELETE 15", "GIVE");
        Asm.due(T, Due.TYPE, "SPECIAL 0", "DELETE 3");
        Asm.due(T, Due.TYPE, "SPECIAL 1", "DELETE 3");
        Asm.due(R, Due.TRUE, "SPECIAL 2", "DELETE 3", "GIVE");
        Asm.dueStrict(R, Due.TRUE, "NUMBER 2", "DELETE 3", "GIVE");
    }

    private static void has() {
        Asm.due(R, Due.TRUE, "ARRAY 0", "HAS 16", "GIVE");
        Asm.due(R, Due.FALSE, "ARRAY 0", "HAS 0", "GIVE");
        Asm.due(R, Due.TRUE, "THIS", "NUMBER 1", "PUT 9", "OBJECT", "HAS 9", "GIVE");
        for (int special = 0; special < 6; special++) {
            Asm.due(T, Due.TYPE, "SPECIAL " + special, "HAS 3");
        }
        Asm.due(T, Due.TYPE, "NUMBER 0", "HAS 3");
    }

    private static void makes() {
        ObjectCore x = new ObjectCore();
        int function = Asm.function(x, 0, false, "OBJECT", "FUNCTION 1", "NUMBER 1", "NUMBER 2", "NUMBER 3",
                "NUMBER 4", "ARRAY 3", "ARRAY 0", "ARRAY 4", "GIVE");
        Due.ends("three ARRAYS", x, x.call(function, 0, 0), R, Due.object(8));
        Due.is("PLAIN", x.of(4, 0), 0);
        Due.is("PLAIN with 0", x.of(4, 1), 0);
        Due.is("FUNCTION", x.of(5, 0), 2);
        Due.is("FUNCTION has none", x.of(5, 3), 0);
        Due.is("ARRAY", x.of(6, 0), 1);
        Due.is("ARRAY with 2", x.of(6, 1), 2);
        Due.is("ARRAY 3", x.own(6, 16, 2), 3);
        Due.is("LENGTH flags", x.own(6, 16, 1), 1);
        Due.is("LENGTH first", x.own(6, 16, 4), 0);
        for (int index = 0; index < 3; index++) {
            Due.is("element", x.own(6, index, 2), index + 2);
            Due.is("element all on", x.own(6, index, 1), 7);
            Due.is("element in order", x.own(6, index, 4), index + 1);
        }
        Due.is("ARRAY 0", x.own(7, 16, 2), 0);
        Due.is("ARRAY 0 alone", x.of(7, 3), 1);
        long[] four = {Due.object(5), 1, Due.object(6), Due.object(7)};
        for (int index = 0; index < 4; index++) {
            Due.is("of four", x.own(8, index, 2), four[index]);
        }
        Asm.due(R, Due.UNDEFINED, "NUMBER 5", "ARRAY 2", "GET 0", "GIVE");
        Asm.due(R, 5, "NUMBER 5", "ARRAY 2", "GET 1", "GIVE");
    }

    private static ObjectCore almostFull() {
        ObjectCore x = new ObjectCore();
        for (int i = 0; i < 24; i++) {
            x.make(0, 0);
        }
        return x;
    }

    private static void makesWithoutRoom() {
        String[] making = {"OBJECT", "ARRAY 0", "FUNCTION 0"};
        for (String line : making) {
            ObjectCore x = almostFull();
            int function = Asm.function(x, 0, false, line, "DROP", "JUMP 0");
            Due.ends(line, x, x.call(function, 0, 0), T, Due.RANGE);
            Due.is(line + ", 32 are there", x.state(0), 32);
            Due.is(line + ", begun", x.state(2), 13);
            Due.ends(line + " again", x, x.call(function, 0, 0), T, Due.RANGE);
            Due.is(line + ", ACTIVATIONS", x.state(1), line.equals("FUNCTION 0") ? 1 : 0);
        }
        ObjectCore x = almostFull();
        for (int i = x.state(0); i < 31; i++) {
            x.make(0, 0);
        }
        int function = Asm.function(x, 0, false, "NUMBER 1", "NUMBER 2", "TRY 5", "ARRAY 1", "GIVE", "DROP", "GIVE");
        Due.ends("ARRAY pops before", x, x.call(function, 0, 0), R, 1);
    }

    private static void makesOntoTen() {
        String[] making = {"OBJECT", "ARRAY 0", "FUNCTION 0"};
        for (int kind = 0; kind < 3; kind++) {
            ObjectCore x = new ObjectCore();
            int function = Asm.function(x, 0, false, Asm.onto(10, making[kind]));
            Due.ends(making[kind] + " onto 10", x, x.call(function, 0, 0), T, Due.RANGE);
            Due.is(making[kind] + " is there", x.state(0), 5);
            Due.is(making[kind] + " kind", x.of(4, 0), kind);
            Due.is(making[kind] + " ACTIVATIONS", x.state(1), kind == 2 ? 1 : 0);
        }
    }

    private static void numbers() {
        Asm.due(R, 7, "NUMBER 3", "NUMBER 4", "ADD", "GIVE");
        Asm.due(R, -1, "NUMBER 3", "NUMBER 4", "SUB", "GIVE");
        Asm.due(R, Integer.MIN_VALUE, "NUMBER 2147483647", "NUMBER 1", "ADD", "GIVE");
        Asm.due(R, Integer.MAX_VALUE, "NUMBER -2147483648", "NUMBER 1", "SUB", "GIVE");
        Asm.due(R, Integer.MIN_VALUE, "NUMBER 0", "NUMBER -2147483648", "SUB", "GIVE");
        Asm.due(R, Due.TRUE, "NUMBER 3", "NUMBER 4", "LESS", "GIVE");
        Asm.due(R, Due.FALSE, "NUMBER 4", "NUMBER 4", "LESS", "GIVE");
        Asm.due(R, Due.TRUE, "NUMBER -2147483648", "NUMBER 2147483647", "LESS", "GIVE");
        Asm.due(R, Due.FALSE, "NUMBER 2147483647", "NUMBER -2147483648", "LESS", "GIVE");
        String[] ops = {"ADD", "SUB", "LESS"};
        for (String op : ops) {
            Asm.due(T, Due.TYPE, "NUMBER 3", "SPECIAL 0", op);
            Asm.due(T, Due.TYPE, "THIS", "NUMBER 3", op);
            Asm.due(T, Due.TYPE, "NUMBER 3", op);
            // Both are popped.
            Asm.due(R, 9, "NUMBER 9", "NUMBER 1", "SPECIAL 3", "TRY 6", op, "GIVE", "DROP", "GIVE");
        }
    }

    private static void sameIsOf() {
        Asm.due(R, Due.TRUE, "NUMBER 3", "NUMBER 3", "SAME", "GIVE");
        Asm.due(R, Due.FALSE, "NUMBER 3", "NUMBER 4", "SAME", "GIVE");
        Asm.due(R, Due.TRUE, "OBJECT", "DUP", "SAME", "GIVE");
        Asm.due(R, Due.FALSE, "OBJECT", "OBJECT", "SAME", "GIVE");
        Asm.due(R, Due.FALSE, "SPECIAL 0", "SPECIAL 1", "SAME", "GIVE");
        Asm.due(R, 0, "OBJECT", "OF", "GIVE");
        Asm.due(R, 0, "THIS", "OF", "GIVE");
        Asm.due(R, 1, "ARRAY 0", "OF", "GIVE");
        Asm.due(R, 2, "FUNCTION 0", "OF", "GIVE");
        Asm.due(R, 3, "NUMBER -7", "OF", "GIVE");
        for (int special = 0; special < 6; special++) {
            Asm.due(R, 4 + special, "SPECIAL " + special, "OF", "GIVE");
        }
        Asm.due(R, 4, "OF", "GIVE");
    }

    private static void kin() {
        Asm.due(T, Due.TYPE, "THIS", "OBJECT", "IS");
        Asm.due(T, Due.TYPE, "THIS", "NUMBER 3", "IS");
        Asm.due(T, Due.TYPE, "THIS", "FUNCTION 0", "IS");
        Asm.due(T, Due.TYPE, "THIS", "FUNCTION 0", "DUP", "NUMBER 1", "PUT 17", "DROP", "IS");
        Asm.due(R, 9, "NUMBER 9", "THIS", "NUMBER 3", "TRY 6", "IS", "GIVE", "DROP", "GIVE");
        String[] values = {"OBJECT", "ARRAY 0", "FUNCTION 1", "NUMBER 1", "SPECIAL 0", "THIS"};
        for (int i = 0; i < values.length; i++) {
            long due = i < 3 ? Due.TRUE : Due.FALSE;
            Asm.due(R, due, values[i], "FUNCTION 0", "DUP", "THIS", "PUT 17", "DROP", "IS", "GIVE");
        }
        ObjectCore x = new ObjectCore();
        int function = Asm.function(x, 0, false, "THIS", "VAR 0 0", "IS", "GIVE");
        int getter = Asm.function(x, 1, false, "NUMBER 1", "GIVE");
        int plain = x.make(0, 0);
        int child = x.make(0, plain);
        x.define(1, 17, Due.object(plain), 127);
        Due.ends("KIN of a PROTOTYPE", x, x.call(function, Due.object(child), Due.object(getter)), R, Due.TRUE);
        Due.ends("not itself", x, x.call(function, Due.object(plain), Due.object(getter)), R, Due.FALSE);
        x.accessor(getter, 17, getter, -1, 1);
        Due.ends("an ACCESSOR", x, x.call(function, Due.object(child), Due.object(getter)), T, Due.TYPE);
        Due.is("is not called", x.state(2), 3);
    }

    private static void seal() {
        Asm.due(R, 5, "NUMBER 5", "SEAL 2", "GIVE");
        Asm.due(R, Due.UNDEFINED, "SEAL 2", "GIVE");
        for (int how = 0; how < 3; how++) {
            ObjectCore x = new ObjectCore();
            int function = Asm.function(x, 0, false, "OBJECT", "DUP", "NUMBER 5", "PUT 3", "DROP", "SEAL " + how, "GIVE");
            Due.ends("SEAL " + how, x, x.call(function, 0, 0), R, Due.object(4));
            Due.is("not EXTENSIBLE", x.of(4, 2), 0);
            Due.is("flags", x.own(4, 3, 1), how == 0 ? 7 : how == 1 ? 3 : 2);
        }
    }

    private static void jumps() {
        Asm.due(R, 2, "JUMP 3", "NUMBER 1", "GIVE", "NUMBER 2", "GIVE");
        Asm.due(R, Due.UNDEFINED, "JUMP 24", "NUMBER 1", "GIVE");
        Asm.due(R, Due.UNDEFINED, "NUMBER 1", "JUMP 9");
        String[] truthy = {"NUMBER 1", "NUMBER -1", "SPECIAL 3", "SPECIAL 4", "SPECIAL 5", "OBJECT"};
        String[] others = {"NUMBER 0", "SPECIAL 0", "SPECIAL 1", "SPECIAL 2", "DROP"};
        for (String line : truthy) {
            Asm.due(R, 2, "NUMBER 7", line, "IF 5", "NUMBER 1", "GIVE", "NUMBER 2", "GIVE");
            Asm.due(R, 7, "NUMBER 7", line, "IF 4", "NUMBER 1", "GIVE");
        }
        for (String line : others) {
            Asm.due(R, 1, "NUMBER 7", line, "IF 5", "NUMBER 1", "GIVE", "NUMBER 2", "GIVE");
        }
    }
}
