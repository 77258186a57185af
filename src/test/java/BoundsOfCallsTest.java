import java.util.Arrays;

/** Terms on CALLS, and promises 8, 16 and 18: 6 FRAMES, 24 ACTIVATIONS, 32 OBJECTS for NEW, 300 instructions. */
public final class BoundsOfCallsTest {
    private static final int R = Due.RETURNED;
    private static final int T = Due.THROWN;
    private static final int GETTER = 1, SETTER = 8;
    private static final long U = Due.UNDEFINED;

    /** The ways in which a CALL comes about: what is pushed before, and the instruction. */
    private static final String[][] WAYS = {{"THIS", "THIS", "CALL 0"}, {"THIS", "NEW 0"}, {"THIS", "GET 5"},
        {"THIS", "NUMBER 1", "PUT 5"}, {"THIS", "NUMBER 5", "GETAT"}, {"THIS", "NUMBER 5", "NUMBER 1", "PUTAT"}};

    public static void main(String[] args) {
        sixFramesByEachWay();
        sixFramesOneAfterTheOther();
        rangeIsThrownInTheSixth();
        callPops();
        noFunction();
        typeBeforeRange();
        twentyFourActivations();
        activationsByEachWay();
        activationIsThereUntilItsFrameEnds();
        activationStays();
        activationDoesNotStay();
        activationsHaveTheirOwnVariables();
        newBeforeTheCall();
        newBehindWhetherFunction();
        newIsThereAllTheSame();
        newPrototype();
        newGives();
        longByCall();
        longByGetAndPut();
        longEndsFrames();
        longIsNotCaught();
        threeHundredthThrows();
        callRefused();
        callOfNoFunction();
        stateTells();
        Due.end("BoundsOfCallsTest");
    }

    /** OBJECT 3, a FUNCTION with CODE 0, has an ACCESSOR for KEY 5: itself as GETTER and SETTER. */
    private static ObjectCore withItself(String... lines) {
        ObjectCore x = new ObjectCore();
        int function = Asm.function(x, 0, false, lines);
        x.accessor(function, 5, function, function, GETTER | SETTER);
        return x;
    }

    private static void fill(ObjectCore x, int count) {
        for (int object = x.state(0); object < count; object++) {
            x.make(0, 0);
        }
    }

    /** So many ACTIVATIONS stay, each with its number as VARIABLE 0; takes as many OBJECTS, and CODE 6. */
    private static void keep(ObjectCore x, int count) {
        int maker = Asm.function(x, 6, false, "FUNCTION 7", "GIVE");
        for (int i = 0; i < count; i++) {
            Due.is("made in an ACTIVATION", x.call(maker, 0, i), R);
        }
        Due.is("ACTIVATIONS", x.state(1), count);
    }

    private static void sixFramesByEachWay() {
        Due.says("else RANGE if 6 FRAMES are at work");
        for (String[] way : WAYS) {
            String name = way[way.length - 1];
            if (name.equals("NEW 0")) {
                continue;
            }
            ObjectCore x = withItself(way);
            Due.ends("call, " + name, x, x.call(3, Due.object(3), 0), T, Due.RANGE);
            Due.is("six FRAMES", x.state(3), 6);
            Due.is("begun", x.state(2), 6 * way.length);
            Due.is("no ACTIVATION", x.state(1), 0);
            Due.ends("get, " + name, x, x.get(3, 5), T, Due.RANGE);
            Due.is("six FRAMES by get", x.state(3), 6);
            Due.ends("put, " + name, x, x.put(3, 5, 1, false), T, Due.RANGE);
            Due.is("six FRAMES by put", x.state(3), 6);
        }
        ObjectCore x = withItself("VAR 0 0", "DUP", "NEW 1");
        Due.ends("NEW", x, x.call(3, 0, Due.object(3)), T, Due.RANGE);
        Due.is("six FRAMES by NEW", x.state(3), 6);
        Due.is("six new OBJECTS", x.state(0), 10);
    }

    private static void sixFramesOneAfterTheOther() {
        Due.says("6 FRAMES are at work");
        ObjectCore x = new ObjectCore();
        // The ARGUMENT is how many FRAMES are to come.
        int down = Asm.function(x, 0, false, "VAR 0 0", "IF 4", "NUMBER 1", "GIVE", "THIS", "THIS", "VAR 0 0",
                "NUMBER 1", "SUB", "CALL 1", "GIVE");
        for (int more = 0; more <= 5; more++) {
            Due.ends(more + " more", x, x.call(down, Due.object(down), more), R, 1);
            Due.is("FRAMES", x.state(3), more + 1);
        }
        Due.ends("6 more", x, x.call(down, Due.object(down), 6), T, Due.RANGE);
        Due.is("6 FRAMES", x.state(3), 6);
        Asm.write(x, 0, false, "VAR 0 0", "IF 4", "NUMBER 1", "GIVE", "THIS", "THIS", "VAR 0 0", "NUMBER 1", "SUB",
                "CALL 1", "THIS", "THIS", "VAR 0 0", "NUMBER 1", "SUB", "CALL 1", "ADD", "GIVE");
        // Now each but the last calls twice.
        Due.ends("eight at four deep", x, x.call(down, Due.object(down), 3), R, 8);
        Due.is("four FRAMES", x.state(3), 4);
        // A FRAME that has ended is not at work: so many CALLS in one FRAME.
        int many = Asm.function(x, 1, false, "NUMBER 0", "SET 0 1", "VAR 0 0", "THIS", "CALL 0", "DROP", "VAR 0 1",
                "NUMBER 1", "ADD", "DUP", "SET 0 1", "NUMBER 15", "LESS", "IF 2", "VAR 0 1", "GIVE");
        int empty = x.make(2, 7);
        Due.ends("fifteen one after the other", x, x.call(many, 0, Due.object(empty)), R, 15);
        Due.is("two FRAMES", x.state(3), 2);
    }

    private static void rangeIsThrownInTheSixth() {
        Due.says("A CALL throws TYPE if what is called is no FUNCTION; else RANGE if 6 FRAMES are at work");
        ObjectCore x = withItself("TRY 5", "THIS", "THIS", "CALL 0", "GIVE", "GIVE");
        Due.ends("caught in the sixth, given by all", x, x.call(3, Due.object(3), 0), R, Due.RANGE);
        Due.is("begun", x.state(2), 6 * 4 + 6);
    }

    private static void callPops() {
        Due.says("pops a ARGUMENTS, the last one first, THIS, and what is called");
        for (int count = 0; count <= 4; count++) {
            ObjectCore x = new ObjectCore();
            int target = Asm.function(x, 0, false, "THIS", "VAR 0 0", "VAR 0 1", "VAR 0 2", "VAR 0 3", "ARRAY 4", "DUP",
                    "SET 0 0", "SWAP", "PUT 20", "VAR 0 0", "GIVE");
            String[] start = {"NUMBER 90", "VAR 0 0", "NUMBER 80"};
            String[] four = {"NUMBER 1", "NUMBER 2", "NUMBER 3", "NUMBER 4"};
            String[] pushing = Arrays.copyOf(four, count);
            String[] lines = Asm.join(Asm.join(start, pushing), "CALL " + count, "SET 0 1", "VAR 0 1", "SWAP", "PUT 21",
                    "VAR 0 1", "GIVE");
            int caller = Asm.function(x, 1, false, lines);
            Due.ends("CALL " + count, x, x.call(caller, 0, Due.object(target)), R, Due.object(5));
            for (int i = 0; i < 4; i++) {
                Due.is("ARGUMENT " + i, x.own(5, i, 2), i < count ? i + 1 : U);
            }
            Due.is("THIS", x.own(5, 20, 2), 80);
            Due.is("what is below", x.own(5, 21, 2), 90);
        }
    }

    private static void noFunction() {
        Due.says("A CALL throws TYPE if what is called is no FUNCTION");
        String[] none = {"NUMBER 3", "SPECIAL 0", "SPECIAL 1", "SPECIAL 3", "SPECIAL 5", "THIS", "ARRAY 0", "OBJECT"};
        for (String called : none) {
            Asm.due(T, Due.TYPE, called, "THIS", "CALL 0", "GIVE");
            Asm.due(T, Due.TYPE, called, "NEW 0", "GIVE");
        }
        // All that it pops is popped before.
        for (int count = 0; count <= 4; count++) {
            String[] call = Asm.onto(8, "TRY 11", "CALL " + count, "GIVE", "DROP", "GIVE");
            Asm.due(R, 7 - count - 2, call);
            String[] make = Asm.onto(8, "TRY 11", "NEW " + count, "GIVE", "DROP", "GIVE");
            Asm.due(R, 7 - count - 1, make);
        }
    }

    private static void typeBeforeRange() {
        Due.says("TYPE if what is called is no FUNCTION; else RANGE");
        ObjectCore x = new ObjectCore();
        int down = Asm.function(x, 0, false, "VAR 0 0", "IF 5", "NUMBER 1", "THIS", "CALL 0", "THIS", "THIS", "VAR 0 0",
                "NUMBER 1", "SUB", "CALL 1", "GIVE");
        Due.ends("with 6 FRAMES", x, x.call(down, Due.object(down), 5), T, Due.TYPE);
        Due.is("they were six", x.state(3), 6);
        ObjectCore y = new ObjectCore();
        keep(y, 24);
        Due.ends("with 24 ACTIVATIONS", y, y.call(0, 0, 0), T, Due.TYPE);
        Due.ends("a FUNCTION then", y, y.call(3, 0, 0), T, Due.RANGE);
    }

    private static void twentyFourActivations() {
        Due.says("or 24 ACTIVATIONS are there");
        ObjectCore x = new ObjectCore();
        int give = Asm.function(x, 0, false, "NUMBER 4", "GIVE");
        keep(x, 23);
        Due.ends("with 23", x, x.call(give, 0, 0), R, 4);
        Due.is("23 again", x.state(1), 23);
        Due.is("the 24th stays", x.call(4, 0, 0), R);
        Due.is("24", x.state(1), 24);
        Due.ends("call", x, x.call(give, 0, 0), T, Due.RANGE);
        Due.is("no instruction", x.state(2), 0);
        Due.is("no FRAME", x.state(3), 0);
        x.accessor(0, 5, give, give, GETTER | SETTER);
        Due.ends("get", x, x.get(0, 5), T, Due.RANGE);
        Due.ends("put", x, x.put(0, 5, 1, false), T, Due.RANGE);
        Due.ends("put, STRICT", x, x.put(0, 5, 1, true), T, Due.RANGE);
        x.define(0, 6, 9, 127);
        Due.ends("get of DATA", x, x.get(0, 6), R, 9);
        Due.ends("put to DATA", x, x.put(0, 6, 8, true), R, 8);
        Due.is("clear", x.clear(), 29);
        Due.is("none", x.state(1), 0);
    }

    private static void activationsByEachWay() {
        Due.says("24 ACTIVATIONS are there");
        for (String[] way : WAYS) {
            String name = way[way.length - 1];
            String[] lines = Asm.join(new String[] {"TRY " + (way.length + 2)}, way);
            ObjectCore x = new ObjectCore();
            int give = Asm.function(x, 1, false, "NUMBER 4", "GIVE");
            x.accessor(give, 5, give, give, GETTER | SETTER);
            int caller = Asm.function(x, 0, false, Asm.join(lines, "GIVE", "GIVE"));
            keep(x, 22);
            int due = x.state(0);
            // PUT gives the VALUE, NEW the new one, all others what the CALL gives.
            long given = name.startsWith("PUT") ? 1 : name.equals("NEW 0") ? Due.object(due) : 4;
            Due.ends("22 and two, " + name, x, x.call(caller, Due.object(give), 0), R, given);
            Due.is("the 23rd, " + name, x.call(5, 0, 0), R);
            Due.is("23", x.state(1), 23);
            Due.ends("23 and two, " + name, x, x.call(caller, Due.object(give), 0), R, Due.RANGE);
            Due.is("one FRAME", x.state(3), 1);
        }
    }

    private static void activationIsThereUntilItsFrameEnds() {
        Due.says("An ACTIVATION is there until its FRAME ends");
        ObjectCore x = new ObjectCore();
        int deep = Asm.function(x, 0, false, "THIS", "THIS", "CALL 0", "GIVE");
        keep(x, 20);
        // Four more are there while four FRAMES are at work: the fifth has none.
        Due.ends("20 and four", x, x.call(deep, Due.object(deep), 0), T, Due.RANGE);
        Due.is("four FRAMES", x.state(3), 4);
        Due.is("20 then", x.state(1), 20);
        int thrower = Asm.function(x, 1, false, "THROW");
        int loop = Asm.function(x, 2, false, "JUMP 0");
        x.call(thrower, 0, 0);
        Due.is("thrown", x.state(1), 20);
        x.call(loop, 0, 0);
        Due.is("LONG", x.state(1), 20);
    }

    private static void activationStays() {
        Due.says("it stays if a FUNCTION was made in it");
        String[][] ends = {{"GIVE"}, {"DROP"}, {"THROW"}, {"JUMP 1"}, {"DUP", "ADD"}, {"FUNCTION 7", "GIVE"}};
        int[] how = {R, R, T, Due.LONG, T, R};
        for (int i = 0; i < ends.length; i++) {
            ObjectCore x = new ObjectCore();
            int maker = Asm.function(x, 0, false, Asm.join(new String[] {"FUNCTION 7"}, ends[i]));
            Due.is("it ends", x.call(maker, 0, 0), how[i]);
            Due.is("one stays, " + ends[i][0], x.state(1), 1);
            Due.is("it ends again", x.call(maker, 0, 0), how[i]);
            Due.is("another one stays, " + ends[i][0], x.state(1), 2);
        }
        // Pushing it onto 10 throws, but it was made.
        ObjectCore x = new ObjectCore();
        int maker = Asm.function(x, 0, false, Asm.onto(10, "FUNCTION 7"));
        Due.is("onto 10", x.call(maker, 0, 0), T);
        Due.is("one stays", x.state(1), 1);
        // Of two FRAMES only the one in which it was made.
        ObjectCore y = new ObjectCore();
        int inner = Asm.function(y, 0, false, "FUNCTION 7", "GIVE");
        int outer = Asm.function(y, 1, false, "VAR 0 0", "THIS", "CALL 0", "GIVE");
        Due.is("outer", y.call(outer, 0, Due.object(inner)), R);
        Due.is("the inner one stays", y.state(1), 1);
    }

    private static void activationDoesNotStay() {
        Due.says("An ACTIVATION is there until its FRAME ends; it stays if a FUNCTION was made in it");
        String[] making = {"OBJECT", "ARRAY 0", "THIS"};
        for (String line : making) {
            ObjectCore x = new ObjectCore();
            int function = Asm.function(x, 0, false, line, "GIVE");
            x.call(function, 0, 0);
            Due.is(line, x.state(1), 0);
        }
        ObjectCore x = new ObjectCore();
        int maker = Asm.function(x, 0, false, "FUNCTION 7", "GIVE");
        fill(x, 32);
        Due.ends("no room for the FUNCTION", x, x.call(maker, 0, 0), T, Due.RANGE);
        Due.is("none stays", x.state(1), 0);
        ObjectCore y = new ObjectCore();
        y.make(2, 0);
        Due.is("make has none", y.state(1), 0);
    }

    private static void activationsHaveTheirOwnVariables() {
        Due.says("the ACTIVATION around it: the one in which the FUNCTION was made, or none");
        ObjectCore x = new ObjectCore();
        Asm.write(x, 7, false, "VAR 1 0", "VAR 0 0", "SET 1 3", "GIVE");
        keep(x, 23);
        for (int i = 0; i < 23; i++) {
            Due.ends("ACTIVATION " + i, x, x.call(4 + i, 0, 70 + i), R, i);
        }
        Asm.write(x, 7, false, "VAR 1 3", "GIVE");
        for (int i = 0; i < 23; i++) {
            Due.ends("VARIABLE 3 of " + i, x, x.call(4 + i, 0, 0), R, 70 + i);
        }
        int free = x.make(2, 7);
        Due.ends("none around it", x, x.call(free, 0, 5), R, U);
        // Each CALL has a new one, whatever an earlier one had in it.
        Asm.write(x, 7, false, "VAR 0 1", "NUMBER 8", "SET 0 1", "GIVE");
        Due.ends("new", x, x.call(free, 0, 5), R, U);
        Due.ends("new again", x, x.call(free, 0, 5), R, U);
    }

    private static void newBeforeTheCall() {
        Due.says("for NEW before the CALL is looked at");
        ObjectCore x = new ObjectCore();
        int thrower = Asm.function(x, 0, false, "NUMBER 1", "THROW");
        int maker = Asm.function(x, 1, false, "NUMBER 8", "VAR 0 0", "TRY 5", "NEW 0", "GIVE", "SWAP", "DROP", "GIVE");
        fill(x, 32);
        Due.ends("32", x, x.call(maker, 0, Due.object(thrower)), R, Due.RANGE);
        Due.is("the CALL is not begun", x.state(3), 1);
        Due.is("begun", x.state(2), 7);
        Due.is("still 32", x.state(0), 32);
    }

    private static void newBehindWhetherFunction() {
        Due.says("but behind whether there is a FUNCTION");
        ObjectCore x = new ObjectCore();
        int maker = Asm.function(x, 0, false, "VAR 0 0", "NEW 0", "GIVE");
        fill(x, 32);
        long[] none = {0, U, Due.object(0), Due.object(31)};
        for (long called : none) {
            Due.ends("TYPE, " + called, x, x.call(maker, 0, called), T, Due.TYPE);
        }
        Due.ends("RANGE", x, x.call(maker, 0, Due.object(maker)), T, Due.RANGE);
        ObjectCore y = new ObjectCore();
        maker = Asm.function(y, 0, false, "NUMBER 3", "NEW 0", "GIVE");
        Due.ends("no FUNCTION", y, y.call(maker, 0, 0), T, Due.TYPE);
        Due.is("no new OBJECT", y.state(0), 4);
    }

    private static void newIsThereAllTheSame() {
        Due.says("NEW: where the CALL throws RANGE the new OBJECT is there all the same");
        ObjectCore x = new ObjectCore();
        int down = Asm.function(x, 0, false, "VAR 0 0", "IF 4", "THIS", "NEW 0", "THIS", "THIS", "VAR 0 0", "NUMBER 1",
                "SUB", "CALL 1", "GIVE");
        Due.ends("6 FRAMES", x, x.call(down, Due.object(down), 5), T, Due.RANGE);
        Due.is("one more", x.state(0), 5);
        Due.is("PLAIN", x.of(4, 0), 0);
        ObjectCore y = new ObjectCore();
        int maker = Asm.function(y, 0, false, "VAR 0 0", "NEW 0", "GIVE");
        keep(y, 23);
        int before = y.state(0);
        Due.ends("24 ACTIVATIONS", y, y.call(maker, 0, Due.object(maker)), T, Due.RANGE);
        Due.is("one more then", y.state(0), before + 1);
    }

    private static void newPrototype() {
        Due.says("whose PROTOTYPE is what LOOKING for KIN in it finds, if that is DATA with an OBJECT, else 0");
        ObjectCore x = new ObjectCore();
        int empty = x.make(2, 7);
        int maker = Asm.function(x, 0, false, "VAR 0 0", "NEW 0", "GIVE");
        long[] values = {U, Due.NULL, Due.TYPE, 0, 2, Due.object(0), Due.object(1), Due.object(empty),
            Due.object(maker)};
        int[] prototypes = {0, 0, 0, 0, 0, 0, 1, empty, maker};
        Due.is("no KIN", x.call(maker, 0, Due.object(empty)), R);
        Due.is("no KIN: 0", x.of(5, 1), 0);
        for (int i = 0; i < values.length; i++) {
            x.define(empty, 17, values[i], 127);
            x.call(maker, 0, Due.object(empty));
            Due.is("KIN " + values[i], x.of(6 + i, 1), prototypes[i]);
        }
        x.accessor(empty, 17, maker, maker, GETTER | SETTER);
        x.define(1, 17, Due.object(2), 127);
        x.call(maker, 0, Due.object(empty));
        Due.is("an ACCESSOR, and DATA behind it", x.of(15, 1), 0);
        Due.is("it is not called", x.state(3), 2);
        x.remove(empty, 17);
        x.call(maker, 0, Due.object(empty));
        Due.is("of a PROTOTYPE", x.of(16, 1), 2);
    }

    private static void newGives() {
        Due.says("the new one is pushed in the end, unless an OBJECT is given: then that");
        String[] given = {"SPECIAL 0", "SPECIAL 1", "SPECIAL 5", "NUMBER 0", "NUMBER 3", "DROP"};
        for (String line : given) {
            ObjectCore x = new ObjectCore();
            int made = Asm.function(x, 0, false, line, "GIVE");
            int maker = Asm.function(x, 1, false, "NUMBER 8", "VAR 0 0", "NEW 0", "GIVE");
            Due.ends("NEW of " + line, x, x.call(maker, 0, Due.object(made)), R, Due.object(5));
        }
        for (int object = 0; object < 5; object++) {
            ObjectCore x = new ObjectCore();
            int made = Asm.function(x, 0, false, "VAR 0 0", "GIVE");
            int maker = Asm.function(x, 1, false, "THIS", "VAR 0 0", "NEW 1", "GIVE");
            long value = Due.object(object);
            Due.ends("NEW gives " + object, x, x.call(maker, Due.object(made), value), R, value);
            Due.is("the new one is there", x.state(0), 6);
        }
    }

    /** So many instructions in all, then an end that is none. */
    private static String[] counting(int instructions) {
        // A loop of five, 57 times: behind 1 + 57 * 5 + 3 = 289 instructions 0 is on the stack.
        String[] loop = {"NUMBER 57", "DUP", "IF 4", "JUMP 7", "NUMBER 1", "SUB", "JUMP 1"};
        String[] rest = new String[instructions - 289];
        Arrays.fill(rest, "DONE");
        return Asm.join(loop, rest);
    }

    private static void longByCall() {
        Due.says("LONG, if 300 instructions were begun and one more would be");
        for (int instructions = 298; instructions <= 302; instructions++) {
            ObjectCore x = new ObjectCore();
            int function = Asm.function(x, 0, false, counting(instructions));
            boolean tooLong = instructions > 300;
            Due.ends(instructions + " instructions", x, x.call(function, 0, 0), tooLong ? Due.LONG : R, U);
            Due.is("begun", x.state(2), Math.min(instructions, 300));
        }
        ObjectCore x = new ObjectCore();
        int function = Asm.function(x, 0, false, Asm.join(counting(299), "GIVE"));
        Due.ends("GIVE is the 300th", x, x.call(function, 0, 0), R, 0);
        Asm.write(x, 0, false, Asm.join(counting(300), "GIVE"));
        Due.ends("GIVE would be the 301st", x, x.call(function, 0, 0), Due.LONG, U);
    }

    private static void longByGetAndPut() {
        Due.says("GET, and what comes of it, likewise");
        for (int instructions = 299; instructions <= 301; instructions++) {
            ObjectCore x = withItself(counting(instructions));
            boolean tooLong = instructions > 300;
            Due.ends("get, " + instructions, x, x.get(3, 5), tooLong ? Due.LONG : R, U);
            Due.is("begun by get", x.state(2), Math.min(instructions, 300));
            Due.ends("put, " + instructions, x, x.put(3, 5, 9, true), tooLong ? Due.LONG : R, tooLong ? U : 9);
            Due.is("begun by put", x.state(2), Math.min(instructions, 300));
        }
    }

    private static void longEndsFrames() {
        Due.says("its FRAMES end then");
        ObjectCore x = new ObjectCore();
        int deep = Asm.function(x, 0, false, "TRY 5", "THIS", "THIS", "CALL 0", "GIVE", "JUMP 5");
        Due.ends("six", x, x.call(deep, Due.object(deep), 0), Due.LONG, U);
        Due.is("six FRAMES", x.state(3), 6);
        Due.is("300 begun", x.state(2), 300);
        Due.is("no ACTIVATION", x.state(1), 0);
        int give = Asm.function(x, 1, false, "NUMBER 4", "GIVE");
        Due.ends("the next call is a new one", x, x.call(give, 0, 0), R, 4);
        Due.is("two begun", x.state(2), 2);
        Due.is("one FRAME", x.state(3), 1);
        // What was done before stays done.
        int doing = Asm.function(x, 2, false, "OBJECT", "NUMBER 6", "PUT 3", "THIS", "NUMBER 7", "PUT 3", "JUMP 6");
        Due.ends("LONG", x, x.call(doing, Due.object(0), 0), Due.LONG, U);
        Due.is("an OBJECT was made", x.own(6, 3, 2), 6);
        Due.is("a PROPERTY was put", x.own(0, 3, 2), 7);
        // 300 are for all FRAMES together.
        int pair = Asm.function(x, 3, false, "THIS", "THIS", "CALL 0", "DROP", "JUMP 0");
        Due.ends("together", x, x.call(pair, Due.object(give), 0), Due.LONG, U);
        Due.is("300 begun together", x.state(2), 300);
    }

    private static void longIsNotCaught() {
        Due.says("how it ends. LONG");
        ObjectCore x = new ObjectCore();
        int loop = Asm.function(x, 0, false, "TRY 4", "TRY 4", "TRY 4", "JUMP 3", "NUMBER 1", "GIVE");
        Due.ends("in its FRAME", x, x.call(loop, 0, 0), Due.LONG, U);
        int outer = Asm.function(x, 1, false, "TRY 4", "VAR 0 0", "THIS", "CALL 0", "NUMBER 1", "GIVE");
        Due.ends("in its caller's", x, x.call(outer, 0, Due.object(loop)), Due.LONG, U);
        Due.is("begun", x.state(2), 300);
    }

    private static void threeHundredthThrows() {
        Due.says("if 300 instructions were begun and one more would be");
        ObjectCore x = new ObjectCore();
        int function = Asm.function(x, 0, false, Asm.join(counting(299), "THROW"));
        Due.ends("thrown", x, x.call(function, 0, 0), T, 0);
        Due.is("begun", x.state(2), 300);
        // A HANDLER that has an instruction would begin the 301st; one that has none gives UNDEFINED.
        String[] loop = {"TRY 18", "NUMBER 57", "DUP", "IF 5", "JUMP 8", "NUMBER 1", "SUB", "JUMP 2"};
        String[] rest = new String[9];
        Arrays.fill(rest, "DROP");
        String[] throwing = Asm.join(Asm.join(loop, rest), "THROW");
        Asm.write(x, 0, false, throwing);
        Due.ends("caught", x, x.call(function, 0, 0), R, U);
        Due.is("begun, and caught", x.state(2), 300);
        x.add(0, 2, 0, 0);
        Due.ends("caught, and one more", x, x.call(function, 0, 0), Due.LONG, U);
        Due.is("begun, no more", x.state(2), 300);
    }

    private static void callRefused() {
        Due.says("REFUSED, and nothing changes, if there is no such OBJECT, or a VALUE is none");
        ObjectCore x = new ObjectCore();
        int function = Asm.function(x, 0, false, "OBJECT", "FUNCTION 0", "THIS", "NUMBER 1", "PUT 3", "GIVE");
        String before = Picture.all(x);
        int[] none = {-1, 4, 31, 32, Integer.MAX_VALUE, Integer.MIN_VALUE};
        for (int object : none) {
            Due.is("OBJECT " + object, x.call(object, Due.object(0), 0), Due.REFUSED);
        }
        long[] noValues = {Due.object(4), Due.object(-1), 1L << 31, Due.RANGE + 1, Long.MIN_VALUE, Long.MAX_VALUE};
        for (long value : noValues) {
            Due.is("self " + value, x.call(function, value, 0), Due.REFUSED);
            Due.is("argument " + value, x.call(function, Due.object(0), value), Due.REFUSED);
            Due.is("of no FUNCTION, argument " + value, x.call(0, 0, value), Due.REFUSED);
        }
        Due.same("nothing changes", Picture.all(x), before);
        Due.is("the last OBJECT", x.call(function, Due.object(3), Due.object(3)), R);
    }

    private static void callOfNoFunction() {
        Due.says("call of an OBJECT that is no FUNCTION: it ends THROWN, with TYPE, and no instruction is begun");
        ObjectCore x = new ObjectCore();
        x.make(1, 3);
        x.make(0, -1);
        int give = Asm.function(x, 0, false, "NUMBER 4", "GIVE");
        for (int object = 0; object < 5; object++) {
            x.call(give, 0, 0);
            Due.ends("OBJECT " + object, x, x.call(object, 0, 0), T, Due.TYPE);
            Due.is("no instruction", x.state(2), 0);
            Due.is("no FRAME", x.state(3), 0);
            Due.is("no ACTIVATION", x.state(1), 0);
        }
    }

    private static void stateTells() {
        Due.says("2: instructions begun in the latest call, get or put; 3: FRAMES at work at most in it");
        ObjectCore x = withItself("NUMBER 1", "NUMBER 2", "ADD", "GIVE");
        Due.is("none yet, begun", x.state(2), 0);
        Due.is("none yet, FRAMES", x.state(3), 0);
        x.call(3, 0, 0);
        Due.is("call, begun", x.state(2), 4);
        Due.is("call, FRAMES", x.state(3), 1);
        x.get(3, 6);
        Due.is("get of none, begun", x.state(2), 0);
        Due.is("get of none, FRAMES", x.state(3), 0);
        x.get(3, 5);
        Due.is("get, begun", x.state(2), 4);
        x.put(3, 6, 1, true);
        Due.is("put to none, begun", x.state(2), 0);
        Due.is("put to none, FRAMES", x.state(3), 0);
        x.put(3, 5, 1, true);
        Due.is("put, begun", x.state(2), 4);
        x.define(0, 5, 1, 127);
        x.remove(0, 5);
        x.make(0, 0);
        x.seal(0, 0);
        x.code(0, false);
        x.add(0, 7, 0, 0);
        Due.is("the others do not matter", x.state(2), 4);
        Due.is("nor for FRAMES", x.state(3), 1);
        // Three at first, then two: at most three.
        ObjectCore y = new ObjectCore();
        Asm.write(y, 1, false, "VAR 0 0", "IF 3", "GIVE", "THIS", "THIS", "CALL 0", "GIVE");
        int inner = y.make(2, 1);
        int outer = Asm.function(y, 0, false, "VAR 0 0", "VAR 0 0", "NUMBER 1", "CALL 1", "VAR 0 0", "VAR 0 0",
                "CALL 0", "GIVE");
        Due.ends("deep, then not", y, y.call(outer, 0, Due.object(inner)), R, U);
        Due.is("three at most", y.state(3), 3);
        Due.says("REFUSED for others");
        int[] none = {-1, 4, 5, Integer.MAX_VALUE, Integer.MIN_VALUE};
        for (int what : none) {
            Due.is("state " + what, x.state(what), Due.REFUSED);
        }
    }
}
