/** Promises 2 and 3: code and add. */
public final class CodesTest {
    public static void main(String[] args) {
        codeEmptiesAndCounts();
        codeKeepsStrictness();
        addCountsUpToFull();
        addLooksAtWhatIsNamed();
        addLooksAtNothingElse();
        refusedBeforeFull();
        Due.end("CodesTest");
    }

    private static void codeEmptiesAndCounts() {
        ObjectCore x = new ObjectCore();
        for (int code = 0; code < 8; code++) {
            Due.is("code at first", x.code(code, false), 0);
        }
        x.add(7, 7, 0, 0);
        x.add(7, 19, 0, 0);
        x.add(6, 7, 0, 0);
        Due.is("code 7", x.code(7, true), 2);
        Due.is("code 7 again", x.code(7, false), 0);
        Due.is("code 6", x.code(6, false), 1);
        Due.is("code -1", x.code(-1, false), Due.REFUSED);
        Due.is("code 8", x.code(8, false), Due.REFUSED);
        Due.is("code least", x.code(Integer.MIN_VALUE, true), Due.REFUSED);
        Due.is("code greatest", x.code(Integer.MAX_VALUE, true), Due.REFUSED);
    }

    /** A FUNCTION follows its CODE when that is written anew, STRICT or not. */
    private static void codeKeepsStrictness() {
        ObjectCore x = new ObjectCore();
        int function = Asm.function(x, 3, true, "NUMBER 1", "NUMBER 2", "PUT 4");
        Due.ends("STRICT", x, x.call(function, 0, 0), Due.THROWN, Due.TYPE);
        Asm.write(x, 3, false, "NUMBER 1", "NUMBER 2", "PUT 4", "GIVE");
        Due.ends("not STRICT", x, x.call(function, 0, 0), Due.RETURNED, 2);
        x.code(3, true);
        Due.ends("no instructions", x, x.call(function, 0, 0), Due.RETURNED, Due.UNDEFINED);
        Due.is("no instructions begun", x.state(2), 0);
    }

    private static void addCountsUpToFull() {
        ObjectCore x = new ObjectCore();
        for (int i = 1; i <= 24; i++) {
            Due.is("add " + i, x.add(0, 0, i, 0), i);
        }
        Due.is("add 25", x.add(0, 0, 25, 0), Due.FULL);
        Due.is("add to another", x.add(1, 0, 25, 0), 1);
        Due.is("code tells 24", x.code(0, false), 24);
        Due.is("add anew", x.add(0, 0, 25, 0), 1);
    }

    /** The greatest a of each op, -1 where a is not looked at. */
    private static int greatest(int op) {
        switch (Asm.NAMES.get(op)) {
            case "SPECIAL": return 5;
            case "VAR": case "SET": return 3;
            case "GET": case "PUT": case "DELETE": case "HAS": return 31;
            case "ARRAY": case "CALL": case "NEW": return 4;
            case "FUNCTION": return 7;
            case "TRY": case "JUMP": case "IF": return 24;
            case "SEAL": return 2;
            default: return -1;
        }
    }

    private static void addLooksAtWhatIsNamed() {
        ObjectCore x = new ObjectCore();
        for (int op = 0; op < 32; op++) {
            int greatest = greatest(op);
            if (greatest < 0) {
                continue;
            }
            x.code(0, false);
            String name = Asm.NAMES.get(op);
            Due.is(name + " 0", x.add(0, op, 0, 0), 1);
            Due.is(name + " greatest", x.add(0, op, greatest, 0), 2);
            Due.is(name + " -1", x.add(0, op, -1, 0), Due.REFUSED);
            Due.is(name + " too great", x.add(0, op, greatest + 1, 0), Due.REFUSED);
            Due.is(name + " greatest int", x.add(0, op, Integer.MAX_VALUE, 0), Due.REFUSED);
            boolean variable = name.equals("VAR") || name.equals("SET");
            Due.is(name + " b 3", x.add(0, op, 0, 3), 3);
            Due.is(name + " b 4", x.add(0, op, 0, 4), variable ? Due.REFUSED : 4);
            Due.is(name + " b -1", x.add(0, op, 0, -1), variable ? Due.REFUSED : 5);
        }
    }

    private static void addLooksAtNothingElse() {
        ObjectCore x = new ObjectCore();
        for (int op = 0; op < 32; op++) {
            x.code(0, false);
            if (greatest(op) < 0) {
                Due.is(Asm.NAMES.get(op) + " with any a, b", x.add(0, op, -9, 99), 1);
                Due.is(Asm.NAMES.get(op) + " with great a", x.add(0, op, Integer.MAX_VALUE, -1), 2);
            }
        }
        Asm.due(Due.RETURNED, Integer.MIN_VALUE, "NUMBER -2147483648", "GIVE");
        Asm.due(Due.RETURNED, Integer.MAX_VALUE, "NUMBER 2147483647", "GIVE");
    }

    private static void refusedBeforeFull() {
        ObjectCore x = new ObjectCore();
        for (int i = 0; i < 24; i++) {
            x.add(2, 7, 0, 0);
        }
        Due.is("no such op", x.add(2, 32, 0, 0), Due.REFUSED);
        Due.is("no such op -1", x.add(2, -1, 0, 0), Due.REFUSED);
        Due.is("no such a", x.add(2, 8, 32, 0), Due.REFUSED);
        Due.is("no such b", x.add(2, 5, 0, 4), Due.REFUSED);
        Due.is("no such code", x.add(8, 7, 0, 0), Due.REFUSED);
        Due.is("no such code -1", x.add(-1, 7, 0, 0), Due.REFUSED);
        Due.is("full", x.add(2, 7, 0, 0), Due.FULL);
    }
}
