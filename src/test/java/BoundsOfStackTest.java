import java.util.Arrays;

/** Terms on the stack of a FRAME: empty, with 10 VALUES, and what each instruction leaves on it. */
public final class BoundsOfStackTest {
    private static final int R = Due.RETURNED;
    private static final int T = Due.THROWN;
    private static final long U = Due.UNDEFINED;
    private static final long ARGUMENT = Due.object(1);

    public static void main(String[] args) {
        emptyMovers();
        emptySet();
        emptyProperties();
        emptyMakers();
        emptyCalls();
        emptyEnds();
        emptyNumbers();
        emptyValues();
        atMostTen();
        ontoTen();
        ontoTenIsThereAllTheSame();
        dupOntoTen();
        popsBeforeItPushes();
        whatEachLeaves();
        arrayPopsFirst();
        eachFrameHasItsOwn();
        wraps();
        noNumbers();
        variables();
        steps();
        sameOfTwo();
        isKin();
        sealPushesAgain();
        Due.end("BoundsOfStackTest");
    }

    /** Behind these lines just so many VALUES are on the stack. */
    private static void leaves(int height, String... lines) {
        String[] upTo10 = Asm.onto(10 - height, "NUMBER 70", "GIVE");
        String[] fitting = Asm.join(lines, Asm.onto(10 - height));
        Asm.due(R, U, fitting);
        Asm.due(T, Due.RANGE, Asm.join(lines, upTo10));
    }

    private static void emptyMovers() {
        Due.says("Popping an empty stack gives UNDEFINED");
        leaves(0);
        leaves(0, "DROP");
        leaves(0, "DROP", "DROP", "DROP");
        Asm.due(R, 5, "DROP", "NUMBER 5", "GIVE");
        leaves(2, "DUP");
        Asm.due(R, U, "DUP", "GIVE");
        Asm.due(R, U, "DUP", "DROP", "GIVE");
        leaves(2, "SWAP");
        Asm.due(R, U, "SWAP", "GIVE");
        Due.says("4 SWAP: pops two, and pushes them the other way round");
        leaves(2, "NUMBER 5", "SWAP");
        Asm.due(R, U, "NUMBER 5", "SWAP", "GIVE");
        Asm.due(R, 5, "NUMBER 5", "SWAP", "DROP", "GIVE");
        Asm.due(R, 6, "NUMBER 6", "NUMBER 5", "SWAP", "GIVE");
        Asm.due(R, 5, "NUMBER 6", "NUMBER 5", "SWAP", "DROP", "GIVE");
    }

    private static void emptySet() {
        Due.says("6 SET a b: pops a VALUE for that");
        Asm.due(R, U, "SET 0 0", "VAR 0 0", "GIVE");
        leaves(0, "SET 0 0");
        leaves(0, "NUMBER 1", "SET 0 0");
        leaves(1, "NUMBER 1", "NUMBER 2", "SET 0 3");
        Due.says("nothing, if there is none");
        // Read so: where there is no such ACTIVATION the VALUE is popped, too, and nothing comes of it.
        leaves(0, "SET 1 0");
        leaves(1, "NUMBER 1", "NUMBER 2", "SET 3 3");
        Asm.due(R, ARGUMENT, "NUMBER 2", "SET 1 0", "VAR 0 0", "GIVE");
        Asm.due(R, U, "NUMBER 2", "SET 1 0", "VAR 1 0", "GIVE");
    }

    private static void emptyProperties() {
        Due.says("Popping an empty stack gives UNDEFINED");
        String[] single = {"GET 3", "DELETE 3", "HAS 3", "PUT 3", "GETAT", "PUTAT"};
        for (String line : single) {
            Asm.due(T, Due.TYPE, line, "GIVE");
            Asm.due(R, Due.TYPE, "TRY 3", line, "GIVE", "GIVE");
        }
        Asm.due(T, Due.TYPE, "NUMBER 1", "PUT 3", "GIVE");
        Asm.due(T, Due.TYPE, "NUMBER 1", "GETAT", "GIVE");
        Asm.due(T, Due.TYPE, "NUMBER 1", "NUMBER 2", "PUTAT", "GIVE");
        Asm.due(T, Due.TYPE, "NUMBER 1", "PUTAT", "GIVE");
    }

    private static void emptyMakers() {
        Due.says("15 ARRAY a (0..4): pops a VALUES, the last one the first");
        for (int count = 0; count <= 4; count++) {
            leaves(1, "ARRAY " + count);
            Asm.due(R, count, "ARRAY " + count, "GET 16", "GIVE");
            for (int index = 0; index < count; index++) {
                Asm.due(R, U, "ARRAY " + count, "GET " + index, "GIVE");
                Asm.due(R, Due.TRUE, "ARRAY " + count, "HAS " + index, "GIVE");
                // One VALUE on the stack is the last one.
                long due = index == count - 1 ? 5 : U;
                Asm.due(R, due, "NUMBER 5", "ARRAY " + count, "GET " + index, "GIVE");
            }
            Asm.due(R, Due.FALSE, "ARRAY " + count, "HAS " + count, "GIVE");
        }
    }

    private static void emptyCalls() {
        Due.says("A CALL throws TYPE if what is called is no FUNCTION");
        for (int count = 0; count <= 4; count++) {
            Asm.due(T, Due.TYPE, "CALL " + count, "GIVE");
            Asm.due(T, Due.TYPE, "NEW " + count, "GIVE");
            // The FUNCTION stands where THIS or an ARGUMENT is popped, so UNDEFINED is called.
            Asm.due(T, Due.TYPE, "FUNCTION 1", "CALL " + count, "GIVE");
            Asm.due(count == 0 ? R : T, count == 0 ? Due.object(5) : Due.TYPE, "FUNCTION 1", "NEW " + count, "GIVE");
        }
        Asm.due(T, Due.TYPE, "FUNCTION 1", "THIS", "CALL 1", "GIVE");
        Asm.due(R, U, "FUNCTION 1", "THIS", "CALL 0", "GIVE");
    }

    private static void emptyEnds() {
        Due.says("19 GIVE: pops what the CALL gives");
        Asm.due(R, U, "GIVE");
        Asm.due(R, 2, "NUMBER 1", "NUMBER 2", "GIVE", "NUMBER 3", "GIVE");
        Due.says("20 THROW: pops what is thrown");
        Asm.due(T, U, "THROW");
        Asm.due(T, 2, "NUMBER 1", "NUMBER 2", "THROW");
        Asm.due(R, 1, "NUMBER 1", "NUMBER 2", "TRY 4", "THROW", "DROP", "GIVE");
        Due.says("24 IF a: pops");
        Asm.due(R, 5, "IF 3", "NUMBER 5", "GIVE", "NUMBER 6", "GIVE");
        leaves(0, "IF 9");
        leaves(0, "NUMBER 1", "IF 2");
        leaves(0, "NUMBER 0", "IF 2");
    }

    private static void emptyNumbers() {
        Due.says("pop y, then x");
        String[] ops = {"ADD", "SUB", "LESS"};
        for (String op : ops) {
            Asm.due(T, Due.TYPE, op, "GIVE");
            Asm.due(T, Due.TYPE, "NUMBER 5", op, "GIVE");
            Asm.due(R, Due.TYPE, "NUMBER 5", "TRY 4", op, "GIVE", "GIVE");
            leaves(1, "NUMBER 5", "NUMBER 6", op);
        }
        Asm.due(R, 3, "NUMBER 5", "NUMBER 2", "SUB", "GIVE");
        Asm.due(R, Due.FALSE, "NUMBER 5", "NUMBER 2", "LESS", "GIVE");
    }

    private static void emptyValues() {
        Due.says("Popping an empty stack gives UNDEFINED");
        Asm.due(R, Due.TRUE, "SAME", "GIVE");
        Asm.due(R, Due.TRUE, "SPECIAL 0", "SAME", "GIVE");
        Asm.due(R, Due.FALSE, "NUMBER 0", "SAME", "GIVE");
        leaves(1, "SAME");
        Asm.due(R, 4, "OF", "GIVE");
        leaves(1, "OF");
        Asm.due(R, U, "SEAL 2", "GIVE");
        leaves(1, "SEAL 0");
        Asm.due(T, Due.TYPE, "IS", "GIVE");
        // v is UNDEFINED: no OBJECT.
        Asm.due(R, Due.FALSE, "FUNCTION 1", "DUP", "THIS", "PUT 17", "DROP", "IS", "GIVE");
    }

    private static void atMostTen() {
        Due.says("a stack of at most 10 VALUES");
        for (int height = 1; height <= 10; height++) {
            Asm.due(R, height - 1, Asm.onto(height, "GIVE"));
        }
        Asm.due(T, Due.RANGE, Asm.onto(11, "GIVE"));
        Asm.due(R, U, Asm.onto(10));
        // All ten are there, in their order.
        for (int dropped = 0; dropped < 10; dropped++) {
            String[] drops = new String[dropped];
            Arrays.fill(drops, "DROP");
            Asm.due(R, 9 - dropped, Asm.join(Asm.onto(10, drops), "GIVE"));
        }
        // There is room again where one was popped.
        Asm.due(R, 70, Asm.onto(10, "DROP", "NUMBER 70", "GIVE"));
        Asm.due(T, Due.RANGE, Asm.onto(10, "DROP", "NUMBER 70", "NUMBER 71", "GIVE"));
    }

    private static void ontoTen() {
        Due.says("pushing onto 10 throws RANGE instead");
        String[] pushing = {"NUMBER 1", "SPECIAL 0", "DUP", "VAR 0 0", "VAR 0 3", "VAR 3 0", "THIS", "OBJECT",
            "ARRAY 0", "FUNCTION 1"};
        for (String line : pushing) {
            Asm.due(T, Due.RANGE, Asm.onto(10, line, "GIVE"));
            Asm.due(R, U, Asm.onto(9, line));
            // It can be caught, and nothing but what was thrown is on the stack then.
            String[] caught = Asm.join(new String[] {"TRY 13"}, Asm.onto(10, line, "GIVE", "GIVE"));
            Asm.due(R, Due.RANGE, caught);
            String[] alone = Asm.join(new String[] {"TRY 13"}, Asm.onto(10, line, "GIVE", "DROP", "GIVE"));
            Asm.due(R, U, alone);
        }
    }

    private static void ontoTenIsThereAllTheSame() {
        Due.says("where pushing it onto 10 throws RANGE it is there all the same");
        String[] making = {"OBJECT", "ARRAY 0", "FUNCTION 1"};
        for (int kind = 0; kind < 3; kind++) {
            ObjectCore x = new ObjectCore();
            int function = Asm.function(x, 0, false, Asm.onto(10, making[kind], "GIVE"));
            Due.ends(making[kind], x, x.call(function, 0, 0), T, Due.RANGE);
            Due.is(making[kind] + " is there", x.state(0), 5);
            Due.is(making[kind] + ", its kind", x.of(4, 0), kind);
            Due.is(making[kind] + ", its PROTOTYPE", x.of(4, 1), new int[] {0, 2, 1}[kind]);
            // Also the ACTIVATION in which the FUNCTION was made.
            Due.is(making[kind] + ", ACTIVATIONS", x.state(1), kind == 2 ? 1 : 0);
        }
        // With 32 there is none to be pushed: RANGE either way.
        ObjectCore x = new ObjectCore();
        int function = Asm.function(x, 0, false, Asm.onto(10, "FUNCTION 1", "GIVE"));
        for (int object = 4; object < 32; object++) {
            x.make(0, 0);
        }
        Due.ends("32", x, x.call(function, 0, 0), T, Due.RANGE);
        Due.is("none made, no ACTIVATION stays", x.state(1), 0);
    }

    private static void dupOntoTen() {
        Due.says("3 DUP: pops, and pushes that twice");
        leaves(2, "NUMBER 5", "DUP");
        Asm.due(R, 5, "NUMBER 5", "DUP", "GIVE");
        Asm.due(R, 5, "NUMBER 5", "DUP", "DROP", "GIVE");
        Asm.due(R, 8, Asm.onto(9, "DUP", "GIVE"));
        Asm.due(T, Due.RANGE, Asm.onto(10, "DUP", "GIVE"));
        // The first of the two is pushed: ten are there, and no room for RANGE.
        Asm.due(T, Due.RANGE, Asm.onto(10, "TRY 12", "DUP", "GIVE"));
    }

    private static void popsBeforeItPushes() {
        Due.says("pushing onto 10");
        Asm.due(R, 8, Asm.onto(10, "SWAP", "GIVE"));
        Asm.due(R, U, Asm.onto(10, "GET 3", "GIVE"));
        Asm.due(R, 9, Asm.onto(10, "PUT 3", "GIVE"));
        Asm.due(R, U, Asm.onto(10, "GETAT", "GIVE"));
        Asm.due(R, 9, Asm.onto(10, "PUTAT", "GIVE"));
        Asm.due(R, Due.TRUE, Asm.onto(10, "DELETE 3", "GIVE"));
        Asm.due(R, Due.FALSE, Asm.onto(9, "THIS", "HAS 3", "GIVE"));
        Asm.due(R, Due.object(4), Asm.onto(10, "ARRAY 1", "GIVE"));
        Asm.due(R, Due.object(4), Asm.onto(10, "ARRAY 4", "GIVE"));
        Asm.due(R, U, Asm.onto(8, "FUNCTION 1", "THIS", "CALL 0", "GIVE"));
        Asm.due(R, Due.object(5), Asm.onto(9, "FUNCTION 1", "NEW 0", "GIVE"));
        Asm.due(R, 17, Asm.onto(10, "ADD", "GIVE"));
        Asm.due(R, -1, Asm.onto(10, "SUB", "GIVE"));
        Asm.due(R, Due.TRUE, Asm.onto(10, "LESS", "GIVE"));
        Asm.due(R, Due.FALSE, Asm.onto(10, "SAME", "GIVE"));
        Asm.due(R, 3, Asm.onto(10, "OF", "GIVE"));
        Asm.due(R, 9, Asm.onto(10, "SEAL 2", "GIVE"));
    }

    private static void whatEachLeaves() {
        Due.says("What an instruction makes is pushed");
        leaves(1, "NUMBER 1");
        leaves(1, "SPECIAL 1");
        leaves(0, "NUMBER 1", "DROP");
        leaves(1, "VAR 0 0");
        leaves(1, "VAR 3 3");
        leaves(1, "THIS");
        leaves(1, "THIS", "GET 3");
        leaves(1, "THIS", "NUMBER 1", "PUT 3");
        leaves(1, "THIS", "NUMBER 1", "GETAT");
        leaves(1, "THIS", "NUMBER 1", "NUMBER 1", "PUTAT");
        leaves(1, "THIS", "DELETE 3");
        leaves(1, "THIS", "HAS 3");
        leaves(1, "OBJECT");
        leaves(2, "NUMBER 1", "NUMBER 2", "NUMBER 3", "ARRAY 2");
        leaves(1, "FUNCTION 1");
        leaves(2, "NUMBER 1", "FUNCTION 1", "THIS", "NUMBER 2", "CALL 1");
        leaves(2, "NUMBER 1", "FUNCTION 1", "NUMBER 2", "NEW 1");
        leaves(0, "TRY 9", "DONE");
        leaves(0, "JUMP 1");
        leaves(1, "THIS", "NUMBER 1", "SAME");
        leaves(1, "THIS", "OF");
        leaves(1, "THIS", "SEAL 0");
        leaves(1, "THIS", "FUNCTION 1", "DUP", "THIS", "PUT 17", "DROP", "IS");
    }

    private static void arrayPopsFirst() {
        Due.says("ARRAY pops its VALUES before it is looked at whether there is room for an OBJECT");
        for (int count = 0; count <= 4; count++) {
            ObjectCore x = new ObjectCore();
            int function = Asm.function(x, 0, false, Asm.onto(6, "TRY 9", "ARRAY " + count, "GIVE", "DROP", "GIVE"));
            for (int object = 4; object < 32; object++) {
                x.make(0, 0);
            }
            Due.ends("ARRAY " + count, x, x.call(function, 0, 0), R, 5 - count);
            Due.is("32 as before", x.state(0), 32);
        }
    }

    private static void eachFrameHasItsOwn() {
        Due.says("A CALL of a FUNCTION with a CODE has a FRAME: THIS, a stack of at most 10 VALUES");
        ObjectCore x = new ObjectCore();
        int full = Asm.function(x, 0, false, Asm.onto(10, "GIVE"));
        int outer = Asm.function(x, 1, false, Asm.onto(7, "VAR 0 0", "THIS", "NUMBER 9", "CALL 1", "ADD", "GIVE"));
        Due.ends("two full ones", x, x.call(outer, 0, Due.object(full)), R, 15);
        int popper = Asm.function(x, 2, false, "ADD", "GIVE");
        Due.ends("it does not pop its caller's", x, x.call(outer, 0, Due.object(popper)), T, Due.TYPE);
        // Each of six FRAMES has ten VALUES at DUP; what is below the CALL is as it was behind it.
        int six = Asm.function(x, 3, false, Asm.onto(6, "THIS", "THIS", "VAR 0 0", "NUMBER 1", "SUB", "DUP", "IF 15",
                "NUMBER 100", "GIVE", "CALL 1", "ADD", "ADD", "GIVE"));
        Due.ends("six full ones", x, x.call(six, Due.object(six), 6), R, 100 + 5 * (5 + 4));
        Due.is("six FRAMES", x.state(3), 6);
    }

    private static void wraps() {
        Due.says("x + y, x - y (wrapping)");
        int[] numbers = {Integer.MIN_VALUE, Integer.MIN_VALUE + 1, -1, 0, 1, Integer.MAX_VALUE - 1, Integer.MAX_VALUE};
        for (int x : numbers) {
            for (int y : numbers) {
                Asm.due(R, x + y, "NUMBER " + x, "NUMBER " + y, "ADD", "GIVE");
                Asm.due(R, x - y, "NUMBER " + x, "NUMBER " + y, "SUB", "GIVE");
                Asm.due(R, x < y ? Due.TRUE : Due.FALSE, "NUMBER " + x, "NUMBER " + y, "LESS", "GIVE");
                Asm.due(R, x == y ? Due.TRUE : Due.FALSE, "NUMBER " + x, "NUMBER " + y, "SAME", "GIVE");
            }
        }
        Asm.due(R, -2147483648L, "NUMBER 2147483647", "NUMBER 1", "ADD", "GIVE");
        Asm.due(R, 2147483647L, "NUMBER -2147483648", "NUMBER 1", "SUB", "GIVE");
        Asm.due(R, 0, "NUMBER -2147483648", "DUP", "ADD", "GIVE");
        // What comes of it is a NUMBER again.
        Asm.due(R, 3, "NUMBER 2147483647", "DUP", "ADD", "OF", "GIVE");
        Asm.due(R, -1, "NUMBER 2147483647", "DUP", "ADD", "NUMBER 1", "ADD", "GIVE");
    }

    private static void noNumbers() {
        Due.says("TYPE is thrown if one is no NUMBER");
        String[] ops = {"ADD", "SUB", "LESS"};
        String[] none = {"SPECIAL 0", "SPECIAL 1", "SPECIAL 2", "SPECIAL 3", "SPECIAL 4", "SPECIAL 5", "THIS",
            "ARRAY 0", "FUNCTION 0"};
        for (String op : ops) {
            for (String line : none) {
                Asm.due(T, Due.TYPE, "NUMBER 3", line, op, "GIVE");
                Asm.due(T, Due.TYPE, line, "NUMBER 3", op, "GIVE");
                Asm.due(T, Due.TYPE, line, line, op, "GIVE");
            }
            // Both are popped.
            Asm.due(R, 9, "NUMBER 9", "SPECIAL 3", "NUMBER 1", "TRY 6", op, "GIVE", "DROP", "GIVE");
            Asm.due(R, 9, "NUMBER 9", "NUMBER 1", "SPECIAL 3", "TRY 6", op, "GIVE", "DROP", "GIVE");
        }
    }

    private static void variables() {
        Due.says("VARIABLES 0..3, which are its ARGUMENTS, UNDEFINED where there is none");
        for (int count = 0; count <= 4; count++) {
            for (int variable = 0; variable < 4; variable++) {
                ObjectCore x = new ObjectCore();
                int callee = Asm.function(x, 0, false, "VAR 0 " + variable, "GIVE");
                String[] pushing = new String[count];
                for (int i = 0; i < count; i++) {
                    pushing[i] = "NUMBER " + (50 + i);
                }
                String[] lines = Asm.join(new String[] {"NUMBER 40", "VAR 0 0", "NUMBER 41"}, pushing);
                int caller = Asm.function(x, 1, false, Asm.join(lines, "CALL " + count, "GIVE"));
                long due = variable < count ? 50 + variable : U;
                Due.ends("CALL " + count + ", VAR " + variable, x, x.call(caller, 0, Due.object(callee)), R, due);
                String[] made = Asm.join(new String[] {"NUMBER 40", "VAR 0 0"}, pushing);
                Asm.write(x, 0, false, "THIS", "VAR 0 " + variable, "PUT 5");
                int maker = Asm.function(x, 2, false, Asm.join(made, "NEW " + count, "GET 5", "GIVE"));
                Due.ends("NEW " + count + ", VAR " + variable, x, x.call(maker, 0, Due.object(callee)), R, due);
            }
        }
        for (int variable = 0; variable < 4; variable++) {
            Asm.due(R, variable == 0 ? ARGUMENT : U, "VAR 0 " + variable, "GIVE");
            for (int other = 0; other < 4; other++) {
                long due = other == variable ? 5 : other == 0 ? ARGUMENT : U;
                Asm.due(R, due, "NUMBER 5", "SET 0 " + variable, "VAR 0 " + other, "GIVE");
            }
        }
    }

    private static void steps() {
        Due.says("VARIABLE b of the ACTIVATION a (0..3) steps around this one, UNDEFINED if there is none");
        // Four FUNCTIONS, each made in the one before; each sets VARIABLE 3 to 10 + its number.
        for (int steps = 0; steps <= 3; steps++) {
            for (int depth = 0; depth < 4; depth++) {
                ObjectCore x = new ObjectCore();
                for (int code = 0; code < depth; code++) {
                    Asm.write(x, code, false, "NUMBER " + (10 + code), "SET 0 3", "FUNCTION " + (code + 1), "THIS",
                            "CALL 0", "GIVE");
                }
                Asm.write(x, depth, false, "NUMBER " + (10 + depth), "SET 0 3", "VAR " + steps + " 3", "GIVE");
                int function = x.make(2, 0);
                long due = steps <= depth ? 10 + depth - steps : U;
                Due.ends(steps + " steps from " + depth, x, x.call(function, 0, 0), R, due);
                Asm.write(x, depth, false, "NUMBER 60", "SET " + steps + " 2", "VAR " + steps + " 2", "GIVE");
                Due.ends("SET " + steps + " from " + depth, x, x.call(function, 0, 0), R, steps <= depth ? 60 : U);
            }
        }
    }

    private static void sameOfTwo() {
        Due.says("28 SAME: pops two: TRUE or FALSE");
        String[] values = {"NUMBER 0", "NUMBER 1", "NUMBER -1", "SPECIAL 0", "SPECIAL 1", "SPECIAL 2", "SPECIAL 3",
            "SPECIAL 4", "SPECIAL 5", "THIS", "VAR 0 0", "ARRAY 0"};
        for (String first : values) {
            for (String second : values) {
                boolean same = first.equals(second) && !first.equals("ARRAY 0");
                Asm.due(R, same ? Due.TRUE : Due.FALSE, first, second, "SAME", "GIVE");
            }
        }
        leaves(0, "NUMBER 1", "DUP", "SAME", "DROP");
    }

    private static void isKin() {
        Due.says("29 IS: pops f, then v: TYPE is thrown if f is no FUNCTION");
        String[] none = {"NUMBER 3", "SPECIAL 0", "SPECIAL 1", "SPECIAL 4", "THIS", "ARRAY 0"};
        for (String f : none) {
            // OBJECT 0, and so every OBJECT, has DATA with an OBJECT as KIN.
            Asm.due(T, Due.TYPE, "THIS", "VAR 0 0", "PUT 17", "OBJECT", f, "IS", "GIVE");
        }
        Asm.due(R, 9, "NUMBER 9", "NUMBER 8", "NUMBER 7", "TRY 6", "IS", "GIVE", "DROP", "GIVE");
        Due.says("or LOOKING for KIN in it finds no DATA with an OBJECT");
        Asm.due(T, Due.TYPE, "THIS", "FUNCTION 1", "IS", "GIVE");
        String[] noObjects = {"NUMBER 0", "NUMBER 3", "SPECIAL 0", "SPECIAL 1", "SPECIAL 5"};
        for (String kin : noObjects) {
            Asm.due(T, Due.TYPE, "OBJECT", "FUNCTION 1", "DUP", kin, "PUT 17", "DROP", "IS", "GIVE");
        }
        Due.says("whether v is an OBJECT and that one is among its PROTOTYPES");
        String[] noKin = {"NUMBER 0", "SPECIAL 0", "SPECIAL 1", "SPECIAL 3", "THIS"};
        for (String v : noKin) {
            Asm.due(R, Due.FALSE, v, "FUNCTION 1", "DUP", "THIS", "PUT 17", "DROP", "IS", "GIVE");
        }
        Asm.due(R, Due.TRUE, "OBJECT", "FUNCTION 1", "DUP", "THIS", "PUT 17", "DROP", "IS", "GIVE");
        Asm.due(R, Due.TRUE, "FUNCTION 1", "FUNCTION 1", "DUP", "VAR 0 0", "PUT 17", "DROP", "IS", "GIVE");
        Asm.due(R, Due.FALSE, "OBJECT", "FUNCTION 1", "DUP", "VAR 0 0", "PUT 17", "DROP", "IS", "GIVE");
    }

    private static void sealPushesAgain() {
        Due.says("31 SEAL a (0..2): pops, and pushes it again; if it is an OBJECT: it is not EXTENSIBLE");
        String[] values = {"NUMBER 0", "NUMBER 3", "SPECIAL 0", "SPECIAL 1", "SPECIAL 5"};
        for (int how = 0; how <= 2; how++) {
            for (String value : values) {
                ObjectCore x = new ObjectCore();
                int function = Asm.function(x, 0, true, value, "DUP", "SEAL " + how, "SAME", "GIVE");
                Due.ends("SEAL " + how + " of " + value, x, x.call(function, 0, 0), R, Due.TRUE);
                for (int object = 0; object < 4; object++) {
                    Due.is("OBJECT " + object + " stays", x.of(object, 2), 1);
                }
            }
            ObjectCore x = new ObjectCore();
            int function = Asm.function(x, 0, true, "THIS", "SEAL " + how, "GIVE");
            Due.ends("SEAL " + how, x, x.call(function, Due.object(function), 0), R, Due.object(function));
            Due.is("EXTENSIBLE", x.of(function, 2), 0);
            Due.is("another", x.of(1, 2), 1);
            Due.ends("SEAL " + how + " of 0", x, x.call(function, Due.object(0), 0), R, Due.object(0));
            Due.is("OBJECT 0", x.of(0, 2), 0);
        }
    }
}
