/** Promises 8 and 16: CALL, NEW, what is thrown, LONG, and what state tells. */
public final class CallsTest {
    private static final int R = Due.RETURNED;
    private static final int T = Due.THROWN;

    public static void main(String[] args) {
        callPops();
        callOfNoFunction();
        newMakes();
        newGives();
        newWithoutRoom();
        handlers();
        handlerLimits();
        handlerHeights();
        thrownThroughFrames();
        frameLimit();
        activationLimit();
        longEnds();
        longAtTheEdge();
        stateAnswers();
        Due.end("CallsTest");
    }

    private static void callPops() {
        ObjectCore x = new ObjectCore();
        int target = Asm.function(x, 0, false, "VAR 0 0", "VAR 0 1", "VAR 0 2", "VAR 0 3", "ARRAY 4",
                "DUP", "THIS", "PUT 20", "DROP", "GIVE");
        int calling = x.make(2, 1);
        for (int count = 0; count <= 4; count++) {
            // It goes on where just so many ARGUMENTS are pushed.
            Asm.write(x, 1, false, "NUMBER 90", "VAR 0 0", "NUMBER 80", "JUMP " + (8 - count), "NUMBER " + (count - 3),
                    "NUMBER " + (count - 2), "NUMBER " + (count - 1), "NUMBER " + count, "CALL " + count, "GIVE");
            Due.is("call " + count, x.call(calling, 0, Due.object(target)), R);
            int array = (int) (x.result() - Due.object(0));
            for (int i = 0; i < 4; i++) {
                Due.is("argument", x.own(array, i, 2), i < count ? i + 1 : Due.UNDEFINED);
            }
            Due.is("THIS", x.own(array, 20, 2), 80);
        }
        int caller = Asm.function(x, 2, false, "NUMBER 5", "FUNCTION 3", "THIS", "CALL 0", "DROP", "GIVE");
        x.code(3, false);
        Due.ends("what is below stays", x, x.call(caller, 0, 0), R, 5);
        Due.is("no instruction for an empty CODE", x.state(2), 6);
    }

    private static void callOfNoFunction() {
        ObjectCore x = new ObjectCore();
        x.make(1, 0);
        for (int object = 0; object < 4; object++) {
            Due.ends("call of " + object, x, x.call(object, 0, 0), T, Due.TYPE);
            Due.is("no instruction", x.state(2), 0);
            Due.is("no FRAME", x.state(3), 0);
        }
        Asm.due(T, Due.TYPE, "NUMBER 1", "THIS", "CALL 0");
        Asm.due(T, Due.TYPE, "OBJECT", "THIS", "CALL 0");
        Asm.due(T, Due.TYPE, "CALL 4");
        Asm.due(T, Due.TYPE, "OBJECT", "NEW 0");
        Asm.due(T, Due.TYPE, "SPECIAL 0", "NEW 0");
        Asm.due(R, 9, "NUMBER 9", "NUMBER 8", "NUMBER 7", "NUMBER 6", "TRY 7", "CALL 1", "GIVE", "DROP", "GIVE");
        Asm.due(R, 9, "NUMBER 9", "NUMBER 8", "NUMBER 7", "TRY 6", "NEW 1", "GIVE", "DROP", "GIVE");
    }

    private static void newMakes() {
        ObjectCore x = new ObjectCore();
        int maker = Asm.function(x, 0, false, "THIS", "VAR 0 1", "PUT 4");
        int caller = Asm.function(x, 1, false, "NUMBER 9", "VAR 0 0", "NUMBER 5", "NUMBER 6", "NEW 2", "GIVE");
        long made = Due.object(maker);
        Due.ends("without KIN", x, x.call(caller, 0, made), R, Due.object(5));
        Due.is("PLAIN", x.of(5, 0), 0);
        Due.is("PROTOTYPE 0", x.of(5, 1), 0);
        Due.is("by THIS", x.own(5, 4, 2), 6);
        int plain = x.make(0, -1);
        x.define(1, 17, Due.object(plain), 127);
        Due.ends("KIN of a PROTOTYPE", x, x.call(caller, 0, made), R, Due.object(7));
        Due.is("PROTOTYPE is KIN", x.of(7, 1), plain);
        x.define(maker, 17, 3, 127);
        x.call(caller, 0, made);
        Due.is("KIN is no OBJECT", x.of(8, 1), 0);
        x.accessor(maker, 17, maker, -1, 1);
        x.call(caller, 0, made);
        Due.is("KIN is an ACCESSOR", x.of(9, 1), 0);
        Due.is("that is not called", x.state(3), 2);
        x.define(maker, 17, Due.object(caller), 64);
        x.call(caller, 0, made);
        Due.is("KIN is a FUNCTION", x.of(10, 1), caller);
        Due.is("the new one is PLAIN", x.of(10, 0), 0);
    }

    private static void newGives() {
        String[] given = {"NUMBER 5", "SPECIAL 0", "SPECIAL 1", "SPECIAL 4", "OBJECT", "ARRAY 0", "FUNCTION 0"};
        for (String line : given) {
            ObjectCore x = new ObjectCore();
            int maker = Asm.function(x, 0, false, line, "GIVE");
            int caller = Asm.function(x, 1, false, "NUMBER 9", "VAR 0 0", "NEW 0", "GIVE");
            boolean object = !line.startsWith("NUMBER") && !line.startsWith("SPECIAL");
            Due.ends("NEW gives " + line, x, x.call(caller, 0, Due.object(maker)), R, Due.object(object ? 6 : 5));
        }
        ObjectCore x = new ObjectCore();
        x.add(7, 5, 1, 0);
        x.add(7, 19, 0, 0);
        int outer = Asm.function(x, 6, false, "FUNCTION 7", "NEW 0", "GIVE");
        Due.ends("NEW gives OBJECT 0", x, x.call(outer, 0, Due.object(0)), R, Due.object(0));
        x = new ObjectCore();
        int maker = Asm.function(x, 0, false, "NUMBER 4", "THROW");
        int caller = Asm.function(x, 1, false, "VAR 0 0", "NEW 0", "GIVE");
        Due.ends("NEW throws", x, x.call(caller, 0, Due.object(maker)), T, 4);
        Due.is("the new one is there", x.state(0), 6);
    }

    private static void newWithoutRoom() {
        ObjectCore x = new ObjectCore();
        int maker = Asm.function(x, 0, false, "NUMBER 1", "THROW");
        int caller = Asm.function(x, 1, false, "NUMBER 5", "VAR 0 0", "TRY 5", "NEW 0", "GIVE", "SWAP", "DROP", "GIVE");
        for (int object = x.state(0); object < 32; object++) {
            x.make(0, 0);
        }
        Due.ends("RANGE", x, x.call(caller, 0, Due.object(maker)), R, Due.RANGE);
        Due.is("the CALL is not begun", x.state(3), 1);
        Due.ends("TYPE before RANGE", x, x.call(caller, 0, 7), R, Due.TYPE);
        x = new ObjectCore();
        int self = Asm.function(x, 0, false, "VAR 0 0", "DUP", "NEW 1");
        Due.ends("too many FRAMES", x, x.call(self, 0, Due.object(self)), T, Due.RANGE);
        Due.is("six new ones", x.state(0), 10);
        Due.is("six FRAMES", x.state(3), 6);
        Due.is("eighteen instructions", x.state(2), 18);
    }

    private static void handlers() {
        Asm.due(R, 4, "TRY 3", "NUMBER 4", "THROW", "GIVE");
        Asm.due(T, 4, "TRY 3", "NUMBER 4", "THROW", "THROW");
        Asm.due(T, 4, "TRY 4", "DONE", "NUMBER 4", "THROW", "NUMBER 1", "GIVE");
        Asm.due(R, 1, "DONE", "NUMBER 1", "GIVE");
        Asm.due(R, 4, "DONE", "DONE", "TRY 5", "NUMBER 4", "THROW", "GIVE");
        Asm.due(R, 5, "TRY 6", "TRY 4", "NUMBER 4", "THROW", "NUMBER 5", "THROW", "GIVE");
        Asm.due(R, 4, "TRY 7", "TRY 4", "DONE", "NUMBER 4", "THROW", "NUMBER 5", "GIVE", "GIVE");
        Asm.due(R, Due.UNDEFINED, "TRY 24", "NUMBER 4", "THROW");
        Asm.due(R, Due.UNDEFINED, "TRY 3", "NUMBER 4", "THROW");
    }

    private static void handlerLimits() {
        Asm.due(R, 7, "TRY 6", "TRY 6", "TRY 6", "NUMBER 7", "GIVE", "THROW", "GIVE");
        Asm.due(R, Due.RANGE, "TRY 6", "TRY 6", "TRY 6", "TRY 0", "NUMBER 7", "GIVE", "GIVE");
        Asm.due(T, Due.RANGE, "TRY 4", "TRY 4", "TRY 4", "TRY 4", "THROW");
        Asm.due(R, 7, "TRY 9", "TRY 9", "TRY 9", "DONE", "TRY 9", "NUMBER 7", "GIVE", "GIVE", "GIVE", "NUMBER 8", "GIVE");
    }

    private static void handlerHeights() {
        // As high as at its TRY.
        Asm.due(R, 1, "NUMBER 1", "TRY 6", "NUMBER 2", "NUMBER 3", "NUMBER 4", "THROW", "DROP", "GIVE");
        // As it is, if that is less.
        Asm.due(R, Due.UNDEFINED, "NUMBER 1", "NUMBER 2", "TRY 5", "DROP", "ADD", "DROP", "GIVE");
        Asm.due(R, 1, "NUMBER 1", "NUMBER 2", "NUMBER 3", "TRY 6", "DROP", "THROW", "DROP", "GIVE");
        String[] nine = new String[9];
        java.util.Arrays.fill(nine, "NUMBER 6");
        // At 9 there is room for what is thrown; at 10 there is none, and RANGE goes to the next one.
        Asm.due(R, Due.RANGE, Asm.join(nine, "TRY 12", "NUMBER 8", "NUMBER 9", "GIVE"));
        Asm.due(T, Due.RANGE, Asm.join(nine, "NUMBER 8", "TRY 12", "NUMBER 9", "GIVE"));
        Asm.due(R, Due.RANGE, Asm.join(nine, "TRY 14", "NUMBER 8", "TRY 13", "NUMBER 9", "NUMBER 7", "GIVE"));
        Asm.due(R, 6, Asm.join(nine, "TRY 13", "NUMBER 8", "TRY 13", "NUMBER 9", "DROP", "GIVE"));
        Asm.due(R, Due.TYPE, Asm.join(nine, "SPECIAL 3", "TRY 12", "ADD", "GIVE"));
        Asm.due(T, Due.RANGE, Asm.join(nine, "NUMBER 8", "TRY 13", "TRY 13", "TRY 13", "TRY 13", "GIVE"));
    }

    private static void thrownThroughFrames() {
        ObjectCore x = new ObjectCore();
        int thrower = Asm.function(x, 0, false, "TRY 3", "DONE", "VAR 0 0", "THROW");
        int middle = Asm.function(x, 1, false, "NUMBER 3", "VAR 1 0", "THROW");
        int caller = Asm.function(x, 2, false, "NUMBER 50", "TRY 8", "VAR 0 0", "THIS", "NUMBER 7", "NUMBER 6",
                "CALL 2", "GIVE", "ADD", "GIVE");
        Due.ends("to the caller", x, x.call(caller, 0, Due.object(thrower)), R, 57);
        Due.is("FRAMES are gone", x.state(1), 0);
        Due.is("two at most", x.state(3), 2);
        Due.ends("TYPE to the caller", x, x.call(caller, 0, Due.object(middle)), T, Due.TYPE);
        x.accessor(0, 9, thrower, thrower, 9);
        int getter = Asm.function(x, 3, false, "TRY 4", "OBJECT", "GET 9", "GIVE", "OF", "GIVE");
        Due.ends("from a GETTER", x, x.call(getter, 0, 0), R, 4);
        int setter = Asm.function(x, 4, false, "NUMBER 2", "TRY 6", "OBJECT", "NUMBER 9", "PUT 9", "GIVE", "ADD", "GIVE");
        Due.ends("from a SETTER", x, x.call(setter, 0, 0), R, 11);
        int open = Asm.function(x, 5, false, "TRY 9", "NUMBER 1", "GIVE");
        int after = Asm.function(x, 6, false, "FUNCTION 5", "THIS", "CALL 0", "DROP", "NUMBER 8", "THROW");
        Due.is("a FUNCTION", x.of(open, 0), 2);
        Due.ends("a HANDLER ends with its FRAME", x, x.call(after, 0, 0), T, 8);
    }

    private static void frameLimit() {
        ObjectCore x = new ObjectCore();
        int deep = Asm.function(x, 0, false, "VAR 0 0", "IF 3", "GIVE", "THIS", "THIS", "VAR 0 0", "NUMBER 1", "SUB",
                "CALL 1", "NUMBER 1", "ADD", "GIVE");
        long self = Due.object(deep);
        Asm.write(x, 0, false, "NUMBER 0", "VAR 0 0", "IF 4", "GIVE", "DROP", "THIS", "THIS", "VAR 0 0", "NUMBER 1",
                "SUB", "CALL 1", "NUMBER 1", "ADD", "GIVE");
        Due.ends("six", x, x.call(deep, self, 5), R, 5);
        Due.is("six FRAMES", x.state(3), 6);
        Due.ends("seven", x, x.call(deep, self, 6), T, Due.RANGE);
        Due.is("six FRAMES at most", x.state(3), 6);
        Due.is("none is left", x.state(1), 0);
        x.accessor(0, 3, deep, -1, 1);
        Asm.write(x, 0, false, "THIS", "GET 3");
        Due.ends("a GETTER of itself", x, x.get(0, 3), T, Due.RANGE);
        Due.is("twelve instructions", x.state(2), 12);
        Asm.write(x, 0, false, "NUMBER 1", "THIS", "CALL 0", "DROP", "THIS", "THIS", "CALL 0");
        Due.ends("TYPE before RANGE", x, x.call(deep, self, 0), T, Due.TYPE);
    }

    private static void activationLimit() {
        ObjectCore x = new ObjectCore();
        int maker = Asm.function(x, 0, false, "FUNCTION 1", "GIVE");
        int plain = Asm.function(x, 2, false, "NUMBER 4", "GIVE");
        for (int i = 1; i <= 23; i++) {
            Due.is("making", x.call(maker, 0, 0), R);
            Due.is("stays", x.state(1), i);
        }
        Due.ends("the 24th is free again", x, x.call(plain, 0, 0), R, 4);
        Due.is("it is", x.state(1), 23);
        int nested = Asm.function(x, 3, false, "VAR 0 0", "THIS", "CALL 0", "GIVE");
        Due.ends("two at once", x, x.call(nested, 0, Due.object(plain)), T, Due.RANGE);
        Due.is("one FRAME", x.state(3), 1);
        Due.ends("TYPE before RANGE", x, x.call(nested, 0, 0), T, Due.TYPE);
        Due.is("the last", x.call(maker, 0, 0), R);
        Due.is("24", x.state(1), 24);
        Due.ends("none left", x, x.call(plain, 0, 0), T, Due.RANGE);
        Due.is("no instruction", x.state(2), 0);
        Due.is("no FRAME", x.state(3), 0);
        Due.ends("no FUNCTION", x, x.call(0, 0, 0), T, Due.TYPE);
        x.accessor(0, 3, plain, plain, 9);
        Due.ends("get", x, x.get(0, 3), T, Due.RANGE);
        Due.ends("put", x, x.put(0, 3, 1, false), T, Due.RANGE);
        x.clear();
        Due.is("cleared", x.state(1), 0);
    }

    private static void longEnds() {
        ObjectCore x = new ObjectCore();
        int inner = Asm.function(x, 0, false, "NUMBER 1", "DROP", "JUMP 0");
        int outer = Asm.function(x, 1, false, "TRY 0", "FUNCTION 0", "THIS", "CALL 0");
        Due.ends("LONG", x, x.call(outer, 0, 0), Due.LONG, Due.UNDEFINED);
        Due.is("300", x.state(2), 300);
        Due.is("two FRAMES", x.state(3), 2);
        Due.is("one ACTIVATION stays", x.state(1), 1);
        Due.is("what it made is there", x.state(0), 6);
        Due.ends("again", x, x.call(inner, 0, 0), Due.LONG, Due.UNDEFINED);
        Due.is("no other stays", x.state(1), 1);
        Due.is("one FRAME", x.state(3), 1);
        x = new ObjectCore();
        int deep = Asm.function(x, 0, false, "TRY 7", "THIS", "THIS", "CALL 0", "DROP", "JUMP 1", "JUMP 6", "JUMP 6");
        Due.ends("six FRAMES end", x, x.call(deep, Due.object(deep), 0), Due.LONG, Due.UNDEFINED);
        Due.is("six", x.state(3), 6);
        Due.is("no ACTIVATION", x.state(1), 0);
    }

    /** A loop of five instructions, 59 times, and what comes behind it. */
    private static void longAtTheEdge() {
        ObjectCore x = new ObjectCore();
        int counting = Asm.function(x, 0, false, "NUMBER 74", "DUP", "IF 4", "GIVE", "NUMBER 1", "SUB", "JUMP 1");
        Due.ends("more than 300", x, x.call(counting, 0, 0), Due.LONG, Due.UNDEFINED);
        Asm.write(x, 0, false, "NUMBER 59", "DUP", "IF 4", "GIVE", "NUMBER 1", "SUB", "JUMP 1");
        // 1 + 5 * 59 + 3 = 299
        Due.ends("299", x, x.call(counting, 0, 0), R, 0);
        Due.is("299 begun", x.state(2), 299);
        Asm.write(x, 0, false, "NUMBER 59", "DUP", "IF 5", "DUP", "GIVE", "NUMBER 1", "SUB", "JUMP 1");
        Due.ends("300", x, x.call(counting, 0, 0), R, 0);
        Due.is("300 begun", x.state(2), 300);
        Asm.write(x, 0, false, "NUMBER 59", "DUP", "IF 6", "DUP", "DUP", "GIVE", "NUMBER 1", "SUB", "JUMP 1");
        Due.ends("301", x, x.call(counting, 0, 0), Due.LONG, Due.UNDEFINED);
        Due.is("300 begun, no more", x.state(2), 300);
        Asm.write(x, 0, false, "NUMBER 59", "DUP", "IF 5", "DROP", "JUMP 20", "NUMBER 1", "SUB", "JUMP 1");
        Due.ends("an end is no instruction", x, x.call(counting, 0, 0), R, Due.UNDEFINED);
        Due.is("300 begun and an end", x.state(2), 300);
        Asm.write(x, 0, false, "NUMBER 59", "DUP", "IF 5", "DUP", "THROW", "NUMBER 1", "SUB", "JUMP 1");
        Due.ends("THROWN by the 300th", x, x.call(counting, 0, 0), T, 0);
    }

    private static void stateAnswers() {
        ObjectCore x = new ObjectCore();
        Due.is("what -1", x.state(-1), Due.REFUSED);
        Due.is("what 4", x.state(4), Due.REFUSED);
        x.make(0, 0);
        Due.is("OBJECTS", x.state(0), 4);
        int function = Asm.function(x, 0, false, "NUMBER 1", "NUMBER 2", "ADD", "GIVE");
        x.call(function, 0, 0);
        Due.is("four begun", x.state(2), 4);
        Due.is("one FRAME", x.state(3), 1);
        x.define(0, 1, 1, 127);
        Due.is("define leaves it", x.state(2), 4);
        x.put(0, 1, 1, true);
        Due.is("put without a CALL", x.state(2), 0);
        Due.is("put without a FRAME", x.state(3), 0);
        Asm.write(x, 0, false, "SPECIAL 0", "GET 1");
        x.call(function, 0, 0);
        Due.is("what throws was begun", x.state(2), 2);
    }
}
