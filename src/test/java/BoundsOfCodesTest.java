/** Promises 2 and 3, and Terms on CODES: how many instructions, which a and b, and where a CODE ends. */
public final class BoundsOfCodesTest {
    private static final int R = Due.RETURNED;
    private static final int T = Due.THROWN;
    private static final int NO_MATTER = -1;
    private static final int[] FAR = {Integer.MIN_VALUE, Integer.MIN_VALUE + 1, Integer.MAX_VALUE - 1,
        Integer.MAX_VALUE};

    public static void main(String[] args) {
        codeRefused();
        codeTellsHowMany();
        codeStrictOrNot();
        addRefusedCode();
        addRefusedOp();
        addRefusedA();
        addRefusedB();
        notLookedAt();
        fullWith24();
        refusedBeforeFull();
        allCodesFull();
        behindTheLast();
        notThere();
        noInstructions();
        everyNumber();
        specials();
        Due.end("BoundsOfCodesTest");
    }

    private static void codeRefused() {
        Due.says("REFUSED if there is none");
        ObjectCore x = new ObjectCore();
        for (int code = 0; code < 8; code++) {
            x.add(code, 7, 0, 0);
        }
        int[] none = {-1, 8, 9, Integer.MAX_VALUE, Integer.MIN_VALUE};
        for (int code : none) {
            Due.is("code " + code, x.code(code, true), Due.REFUSED);
        }
        for (int code = 0; code < 8; code++) {
            Due.is("code " + code + " has its one", x.code(code, false), 1);
        }
    }

    private static void codeTellsHowMany() {
        Due.says("A CODE has no instructions then, and is STRICT or not: how many it had");
        ObjectCore x = new ObjectCore();
        int[] counts = {0, 1, 23, 24};
        for (int count : counts) {
            for (int i = 0; i < count; i++) {
                x.add(7, 7, 0, 0);
                x.add(0, 7, 0, 0);
            }
            Due.is("CODE 7", x.code(7, true), count);
            Due.is("CODE 7 at once", x.code(7, false), 0);
            Due.is("CODE 0", x.code(0, false), count);
        }
        Due.is("the first then", x.add(7, 7, 0, 0), 1);
    }

    private static void codeStrictOrNot() {
        Due.says("is STRICT or not");
        for (int code = 0; code < 8; code++) {
            ObjectCore x = new ObjectCore();
            String[] lines = {"NUMBER 1", "NUMBER 2", "PUT 3", "GIVE"};
            int function = Asm.function(x, code, true, lines);
            int other = Asm.function(x, (code + 1) % 8, false, lines);
            Due.ends("STRICT " + code, x, x.call(function, 0, 0), T, Due.TYPE);
            Due.ends("another is not", x, x.call(other, 0, 0), R, 2);
            Asm.write(x, code, false, lines);
            Due.ends("not STRICT " + code, x, x.call(function, 0, 0), R, 2);
        }
    }

    private static void addRefusedCode() {
        Due.says("REFUSED if there is no such CODE or op");
        ObjectCore x = new ObjectCore();
        int[] none = {-1, 8, 9, Integer.MAX_VALUE, Integer.MIN_VALUE};
        for (int code : none) {
            Due.is("CODE " + code, x.add(code, 7, 0, 0), Due.REFUSED);
        }
        for (int code = 0; code < 8; code++) {
            Due.is("CODE " + code, x.add(code, 7, 0, 0), 1);
        }
    }

    private static void addRefusedOp() {
        Due.says("no such CODE or op");
        ObjectCore x = new ObjectCore();
        int[] none = {-1, 32, 33, Integer.MAX_VALUE, Integer.MIN_VALUE};
        for (int op : none) {
            Due.is("op " + op, x.add(0, op, 0, 0), Due.REFUSED);
        }
        for (int op = 0; op < 24; op++) {
            Due.is("op " + op, x.add(0, op, 0, 0), op + 1);
        }
        for (int op = 24; op < 32; op++) {
            Due.is("op " + op, x.add(1, op, 0, 0), op - 23);
        }
        Due.is("none of the others", x.code(0, false), 24);
    }

    /** The greatest a of each op, in their order. */
    private static int[] greatestOfEach() {
        int none = NO_MATTER;
        return new int[] {none, 5, none, none, none, 3, 3, none, 31, 31, none, none, 31, 31, none, 4, 7, 4, 4, none,
            none, 24, none, 24, 24, none, none, none, none, none, none, 2};
    }

    private static void addRefusedA() {
        Due.says("or a, b are not as said (KEYS 0..31, VARIABLES 0..3, steps 0..3, CODES 0..7, instructions 0..24");
        int[] greatest = greatestOfEach();
        for (int op = 0; op < 32; op++) {
            if (greatest[op] == NO_MATTER) {
                continue;
            }
            ObjectCore x = new ObjectCore();
            String name = Asm.NAMES.get(op);
            Due.is(name + " -1", x.add(0, op, -1, 0), Due.REFUSED);
            Due.is(name + " too great", x.add(0, op, greatest[op] + 1, 0), Due.REFUSED);
            for (int a : FAR) {
                Due.is(name + " " + a, x.add(0, op, a, 0), Due.REFUSED);
            }
            Due.is(name + ", none there", x.code(0, false), 0);
            for (int a = 0; a <= greatest[op]; a++) {
                Due.is(name + " " + a, x.add(a % 8, op, a, 0), a / 8 + 1);
            }
        }
        Due.says("18 NEW takes an a of 0..4, as 17 CALL does");
        ObjectCore x = new ObjectCore();
        Due.is("NEW 4", x.add(0, 18, 4, 0), 1);
        Due.is("NEW 5", x.add(0, 18, 5, 0), Due.REFUSED);
        Due.is("NEW -1", x.add(0, 18, -1, 0), Due.REFUSED);
        Due.is("NEW 0", x.add(0, 18, 0, 0), 2);
    }

    private static void addRefusedB() {
        Due.says("VARIABLES 0..3");
        int[] ops = {5, 6};
        for (int op : ops) {
            ObjectCore x = new ObjectCore();
            int[] none = {-1, 4, Integer.MAX_VALUE, Integer.MIN_VALUE};
            for (int b : none) {
                Due.is(Asm.NAMES.get(op) + " 0 " + b, x.add(0, op, 0, b), Due.REFUSED);
                Due.is(Asm.NAMES.get(op) + " 3 " + b, x.add(0, op, 3, b), Due.REFUSED);
                Due.is(Asm.NAMES.get(op) + " 4 " + b, x.add(0, op, 4, b), Due.REFUSED);
            }
            for (int b = 0; b < 4; b++) {
                Due.is(Asm.NAMES.get(op) + " 3 " + b, x.add(0, op, 3, b), b + 1);
            }
        }
    }

    private static void notLookedAt() {
        Due.says("what is not named is not looked at");
        int[] greatest = greatestOfEach();
        for (int op = 0; op < 32; op++) {
            ObjectCore x = new ObjectCore();
            String name = Asm.NAMES.get(op);
            int count = 0;
            for (int far : FAR) {
                if (greatest[op] == NO_MATTER) {
                    count++;
                    Due.is(name + " with a " + far, x.add(0, op, far, 0), count);
                }
                if (op != 5 && op != 6) {
                    count++;
                    Due.is(name + " with b " + far, x.add(0, op, 0, far), count);
                }
            }
            Due.is(name + " in all", x.code(0, false), count);
        }
        // Nor does what they are matter to what is done.
        ObjectCore x = new ObjectCore();
        x.add(0, 7, -5, 99);
        x.add(0, 19, 77, -1);
        int function = x.make(2, 0);
        Due.ends("THIS and GIVE", x, x.call(function, 6, 0), R, 6);
    }

    private static void fullWith24() {
        Due.says("A further instruction: how many there are");
        ObjectCore x = new ObjectCore();
        for (int count = 1; count <= 24; count++) {
            Due.is("instruction " + count, x.add(3, 0, count, 0), count);
        }
        Due.says("FULL with 24");
        Due.is("the 25th", x.add(3, 0, 25, 0), Due.FULL);
        Due.is("the 25th again", x.add(3, 19, 0, 0), Due.FULL);
        Due.is("another CODE", x.add(4, 0, 1, 0), 1);
        Due.is("24 are there", x.code(3, false), 24);
        Due.is("anew", x.add(3, 0, 1, 0), 1);
    }

    private static void refusedBeforeFull() {
        Due.says("add, make: REFUSED is tested before FULL");
        ObjectCore x = new ObjectCore();
        for (int i = 0; i < 24; i++) {
            x.add(2, 7, 0, 0);
        }
        Due.is("op -1", x.add(2, -1, 0, 0), Due.REFUSED);
        Due.is("op 32", x.add(2, 32, 0, 0), Due.REFUSED);
        Due.is("a", x.add(2, 1, 6, 0), Due.REFUSED);
        Due.is("b", x.add(2, 6, 0, 4), Due.REFUSED);
        Due.is("CODE", x.add(8, 7, 0, 0), Due.REFUSED);
        Due.is("FULL else", x.add(2, 1, 5, 0), Due.FULL);
        for (int object = 3; object < 32; object++) {
            x.make(0, 0);
        }
        int[][] none = {{0, -2}, {0, 32}, {1, -1}, {1, 17}, {2, -1}, {2, 8}, {-1, 0}, {3, 0}};
        for (int[] pair : none) {
            Due.is("make " + pair[0] + " " + pair[1], x.make(pair[0], pair[1]), Due.REFUSED);
        }
        int[][] full = {{0, -1}, {0, 31}, {1, 0}, {1, 16}, {2, 0}, {2, 7}};
        for (int[] pair : full) {
            Due.is("make " + pair[0] + " " + pair[1], x.make(pair[0], pair[1]), Due.FULL);
        }
    }

    /** Each CODE gives a NUMBER of its own in its 24th instruction but one. */
    private static void allCodesFull() {
        Due.says("CODES 0..7 are STRICT or not, with at most 24 instructions (op, a, b)");
        ObjectCore x = new ObjectCore();
        for (int code = 0; code < 8; code++) {
            Due.is("JUMP", x.add(code, 23, 22, 0), 1);
            for (int i = 1; i < 22; i++) {
                x.add(code, 20, 0, 0);
            }
            Due.is("NUMBER", x.add(code, 0, 100 + code, 0), 23);
            Due.is("GIVE", x.add(code, 19, 0, 0), 24);
        }
        for (int code = 0; code < 8; code++) {
            int function = x.make(2, code);
            Due.ends("CODE " + code, x, x.call(function, 0, 0), R, 100 + code);
            Due.is("three begun", x.state(2), 3);
        }
    }

    private static void behindTheLast() {
        Due.says("Behind the last instruction, and from instructions that are not there, UNDEFINED is given");
        ObjectCore x = new ObjectCore();
        for (int i = 0; i < 24; i++) {
            x.add(0, i % 2 == 0 ? 0 : 2, 7, 0);
            // What comes behind CODE 0 in its number is another CODE's.
            x.add(1, 20, 0, 0);
        }
        int function = x.make(2, 0);
        Due.ends("behind 24", x, x.call(function, 0, 0), R, Due.UNDEFINED);
        Due.says("that is no instruction");
        Due.is("24 begun", x.state(2), 24);
        Asm.due(R, Due.UNDEFINED, "NUMBER 7");
        Asm.due(R, Due.UNDEFINED, "NUMBER 7", "DUP", "THIS");
    }

    private static void notThere() {
        Due.says("from instructions that are not there, UNDEFINED is given");
        for (int at = 2; at <= 24; at++) {
            ObjectCore x = new ObjectCore();
            // What was there before is not there any more.
            for (int i = 0; i < 24; i++) {
                x.add(0, 20, 0, 0);
            }
            int jump = Asm.function(x, 0, false, "NUMBER 7", "JUMP " + at);
            Due.ends("JUMP " + at, x, x.call(jump, 0, 0), R, Due.UNDEFINED);
            Due.is("two begun", x.state(2), 2);
            int on = Asm.function(x, 1, false, "NUMBER 7", "IF " + at);
            Due.ends("IF " + at, x, x.call(on, 0, 0), R, Due.UNDEFINED);
        }
        for (int at = 3; at <= 24; at++) {
            Asm.due(R, Due.UNDEFINED, "TRY " + at, "NUMBER 7", "THROW");
        }
        // To the first and to the last there is.
        Asm.due(R, 7, "THIS", "NUMBER 7", "SWAP", "IF 5", "GIVE", "GIVE");
        Asm.due(R, 1, "VAR 0 1", "IF 6", "NUMBER 1", "SET 0 1", "JUMP 0", "THROW", "VAR 0 1", "GIVE");
        Due.says("on at a if it is TRUTHY");
        Asm.due(R, 5, "NUMBER 5", "NUMBER 0", "IF 24", "GIVE");
        Asm.due(R, Due.UNDEFINED, "NUMBER 5", "NUMBER 1", "IF 24", "GIVE");
    }

    private static void noInstructions() {
        Due.says("No instructions, no CODE is STRICT");
        for (int code = 0; code < 8; code++) {
            ObjectCore x = new ObjectCore();
            int function = x.make(2, code);
            Due.ends("CODE " + code, x, x.call(function, 5, 6), R, Due.UNDEFINED);
            Due.is("none begun", x.state(2), 0);
            Due.is("one FRAME", x.state(3), 1);
            Due.is("no ACTIVATION stays", x.state(1), 0);
            x.add(code, 0, 1, 0);
            x.add(code, 0, 2, 0);
            x.add(code, 9, 3, 0);
            Due.ends("not STRICT " + code, x, x.call(function, 5, 6), R, Due.UNDEFINED);
            Due.is("it had three", x.code(code, false), 3);
        }
    }

    private static void everyNumber() {
        Due.says("0 NUMBER a: pushes it");
        int[] numbers = {Integer.MIN_VALUE, Integer.MIN_VALUE + 1, -1, 0, 1, Integer.MAX_VALUE - 1, Integer.MAX_VALUE};
        for (int number : numbers) {
            Asm.due(R, number, "NUMBER " + number, "GIVE");
            Asm.due(T, number, "NUMBER " + number, "THROW");
        }
    }

    private static void specials() {
        Due.says("1 SPECIAL a (0..5): 2^33 + a");
        for (int special = 0; special <= 5; special++) {
            Asm.due(R, (1L << 33) + special, "SPECIAL " + special, "GIVE");
        }
        ObjectCore x = new ObjectCore();
        Due.is("SPECIAL 6", x.add(0, 1, 6, 0), Due.REFUSED);
        Due.is("SPECIAL -1", x.add(0, 1, -1, 0), Due.REFUSED);
    }
}
