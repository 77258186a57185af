/** Terms on HANDLERS: at most 3, which one is the latest, how high the stack is, and where there is none. */
public final class BoundsOfHandlersTest {
    private static final int R = Due.RETURNED;
    private static final int T = Due.THROWN;
    private static final long U = Due.UNDEFINED;

    public static void main(String[] args) {
        threeAtMost();
        rangeGoesToTheLatest();
        doneTakesTheLatest();
        doneWithoutHandler();
        roomAgain();
        eachFrameHasItsOwn();
        latestFirst();
        heightAtItsTry();
        heightIfLess();
        onlyRoomForNine();
        ontoTenToTheNext();
        noneEndsTheFrame();
        thrownWhereItWasCalled();
        throughSixFrames();
        handlersEndWithTheirFrame();
        handlerThatIsNotThere();
        everyValueCanBeThrown();
        Due.end("BoundsOfHandlersTest");
    }

    private static void threeAtMost() {
        Due.says("at most 3 HANDLERS");
        Asm.due(R, 7, "TRY 9", "NUMBER 7", "GIVE");
        Asm.due(R, 7, "TRY 9", "TRY 9", "NUMBER 7", "GIVE");
        Asm.due(R, 7, "TRY 9", "TRY 9", "TRY 9", "NUMBER 7", "GIVE");
        Due.says("throws RANGE if there are 3");
        Asm.due(R, Due.RANGE, "TRY 6", "TRY 6", "TRY 6", "TRY 6", "NUMBER 7", "GIVE", "GIVE");
        Asm.due(T, Due.RANGE, "TRY 4", "TRY 4", "TRY 4", "TRY 4", "THROW");
    }

    private static void rangeGoesToTheLatest() {
        Due.says("a HANDLER at instruction a; throws RANGE if there are 3");
        // The third one is there, the fourth is not: what is thrown goes on at 8.
        Asm.due(R, 3, "TRY 4", "TRY 6", "TRY 8", "TRY 10", "NUMBER 1", "GIVE", "NUMBER 2", "GIVE", "NUMBER 3", "GIVE",
                "NUMBER 4", "GIVE");
    }

    private static void doneTakesTheLatest() {
        Due.says("22 DONE: the latest HANDLER goes");
        Asm.due(R, 1, "TRY 5", "TRY 7", "DONE", "NUMBER 9", "THROW", "NUMBER 1", "GIVE", "NUMBER 2", "GIVE");
        Asm.due(R, 2, "TRY 5", "TRY 7", "JUMP 3", "NUMBER 9", "THROW", "NUMBER 1", "GIVE", "NUMBER 2", "GIVE");
        Asm.due(T, 9, "TRY 6", "TRY 6", "DONE", "DONE", "NUMBER 9", "THROW", "NUMBER 1", "GIVE");
        Asm.due(R, 1, "TRY 7", "TRY 9", "TRY 9", "DONE", "DONE", "NUMBER 9", "THROW", "NUMBER 1", "GIVE", "NUMBER 2",
                "GIVE");
    }

    private static void doneWithoutHandler() {
        Due.says("if there is one");
        Asm.due(R, 7, "DONE", "NUMBER 7", "GIVE");
        Asm.due(R, 7, "DONE", "DONE", "DONE", "DONE", "NUMBER 7", "GIVE");
        // It does not count below none: the next one is there, and three fit.
        Asm.due(R, 5, "DONE", "DONE", "TRY 5", "NUMBER 5", "THROW", "GIVE");
        Asm.due(R, Due.RANGE, "DONE", "DONE", "TRY 8", "TRY 8", "TRY 8", "TRY 8", "NUMBER 7", "GIVE", "GIVE");
        Asm.due(T, 6, "TRY 2", "DONE", "DONE", "NUMBER 6", "THROW");
    }

    private static void roomAgain() {
        Due.says("which goes then");
        Asm.due(R, 7, "TRY 9", "TRY 9", "TRY 9", "DONE", "TRY 9", "NUMBER 7", "GIVE");
        Asm.due(R, 7, "TRY 9", "TRY 9", "TRY 5", "NUMBER 1", "THROW", "TRY 9", "NUMBER 7", "GIVE");
        Asm.due(R, Due.RANGE, "TRY 9", "TRY 9", "TRY 5", "NUMBER 1", "THROW", "TRY 9", "TRY 9", "NUMBER 7", "GIVE",
                "GIVE");
        // Thrown again where it went on it goes to no HANDLER.
        Asm.due(T, 5, "TRY 3", "NUMBER 5", "THROW", "THROW");
    }

    private static void eachFrameHasItsOwn() {
        Due.says("at most 3 HANDLERS, and an ACTIVATION");
        ObjectCore x = new ObjectCore();
        int inner = Asm.function(x, 0, false, "TRY 9", "TRY 9", "TRY 9", "NUMBER 7", "GIVE");
        int outer = Asm.function(x, 1, false, "TRY 9", "TRY 9", "TRY 9", "VAR 0 0", "THIS", "CALL 0", "GIVE");
        Due.ends("three and three", x, x.call(outer, 0, Due.object(inner)), R, 7);
        Asm.write(x, 0, false, "DONE", "DONE", "DONE");
        Asm.write(x, 1, false, "TRY 6", "VAR 0 0", "THIS", "CALL 0", "NUMBER 8", "THROW", "GIVE");
        Due.ends("DONE takes none of its caller's", x, x.call(outer, 0, Due.object(inner)), R, 8);
        // Six FRAMES with three each: NUMBER 1 and ADD are begun three times in each of them.
        int six = Asm.function(x, 2, false, "TRY 10", "TRY 10", "TRY 10", "THIS", "THIS", "CALL 0", "GIVE", "GIVE",
                "GIVE", "GIVE", "NUMBER 1", "ADD", "GIVE");
        Due.ends("six times three", x, x.call(six, Due.object(six), 0), T, Due.TYPE);
        Due.is("six FRAMES", x.state(3), 6);
        Due.is("begun", x.state(2), 6 * 6 + 6 * 3 * 2);
    }

    private static void latestFirst() {
        Due.says("What is thrown goes to the latest HANDLER of the FRAME");
        String[] ends = {"NUMBER 1", "GIVE", "NUMBER 2", "GIVE", "NUMBER 3", "GIVE"};
        Asm.due(R, 1, Asm.join(new String[] {"TRY 3", "NUMBER 9", "THROW"}, ends));
        Asm.due(R, 2, Asm.join(new String[] {"TRY 4", "TRY 6", "NUMBER 9", "THROW"}, ends));
        Asm.due(R, 3, Asm.join(new String[] {"TRY 5", "TRY 7", "TRY 9", "NUMBER 9", "THROW"}, ends));
        // One after the other, from the latest on.
        Asm.due(R, 321, "TRY 14", "TRY 11", "TRY 8", "NUMBER 0", "THROW", "GIVE", "GIVE", "GIVE",
                "NUMBER 300", "ADD", "THROW", "NUMBER 20", "ADD", "THROW", "NUMBER 1", "ADD", "GIVE");
    }

    private static void heightAtItsTry() {
        Due.says("the stack is as high as at its TRY");
        for (int height = 0; height <= 9; height++) {
            // Up to ten and one more: RANGE is thrown, and the HANDLER's stack is as high as it was.
            String[] trying = Asm.onto(height, "TRY 14");
            String[] throwing = Asm.join(trying, Asm.onto(10 - height, "NUMBER 70"));
            String[] jumping = Asm.join(throwing, "GIVE", "GIVE", "DROP", "GIVE");
            Asm.due(R, height == 0 ? U : height - 1, jumping);
            String[] value = Asm.join(throwing, "GIVE", "GIVE", "GIVE");
            Asm.due(R, Due.RANGE, value);
        }
    }

    private static void heightIfLess() {
        Due.says("or as it is, if that is less");
        // Four at its TRY, three dropped, then one is thrown: none is left but what was thrown.
        Asm.due(R, 0, Asm.onto(4, "TRY 8", "DROP", "DROP", "THROW", "DROP", "GIVE"));
        Asm.due(R, U, Asm.onto(4, "TRY 9", "DROP", "DROP", "DROP", "THROW", "DROP", "GIVE"));
        Asm.due(R, U, Asm.onto(4, "TRY 10", "DROP", "DROP", "DROP", "DROP", "THROW", "DROP", "GIVE"));
        // What is pushed behind it stands where it would.
        Asm.due(R, 1, Asm.onto(2, "TRY 6", "DROP", "DROP", "THROW", "NUMBER 1", "GIVE"));
    }

    private static void onlyRoomForNine() {
        Due.says("the VALUE is pushed");
        Asm.due(R, 77, Asm.onto(9, "TRY 12", "NUMBER 77", "THROW", "GIVE"));
        Asm.due(R, 8, Asm.onto(9, "TRY 12", "NUMBER 77", "THROW", "DROP", "GIVE"));
        // Ten at its TRY, but ADD has popped two: there is room.
        Asm.due(R, Due.TYPE, Asm.onto(9, "THIS", "TRY 12", "ADD", "GIVE"));
        Asm.due(R, 7, Asm.onto(9, "THIS", "TRY 12", "ADD", "DROP", "GIVE"));
        Asm.due(R, 9, Asm.onto(10, "TRY 12", "THROW", "GIVE"));
    }

    private static void ontoTenToTheNext() {
        Due.says("onto 10: RANGE is thrown to the next one");
        Asm.due(T, Due.RANGE, Asm.onto(10, "TRY 12", "NUMBER 9", "GIVE"));
        Asm.due(R, Due.RANGE, Asm.onto(9, "TRY 14", "NUMBER 9", "TRY 13", "NUMBER 9", "THROW", "GIVE"));
        Asm.due(R, 8, Asm.onto(9, "TRY 14", "NUMBER 9", "TRY 13", "NUMBER 9", "THROW", "DROP", "GIVE"));
        // Two that have no room, and one that has: that one gets RANGE, once.
        Asm.due(R, Due.RANGE, Asm.onto(9, "TRY 15", "NUMBER 9", "TRY 14", "TRY 14", "NUMBER 9", "THROW", "GIVE"));
        Asm.due(T, Due.RANGE, Asm.onto(10, "TRY 14", "TRY 14", "TRY 14", "NUMBER 9", "GIVE"));
        // TYPE is thrown at first, RANGE to the next one.
        ObjectCore x = new ObjectCore();
        int thrower = Asm.function(x, 0, false, "NUMBER 5", "THROW");
        int inner = Asm.function(x, 1, false, Asm.onto(10, "TRY 12", "NUMBER 9", "GIVE"));
        int outer = Asm.function(x, 2, false, "TRY 5", "VAR 0 0", "THIS", "CALL 0", "GIVE", "GIVE");
        Due.ends("to the caller", x, x.call(outer, 0, Due.object(inner)), R, Due.RANGE);
        Due.ends("as it is", x, x.call(outer, 0, Due.object(thrower)), R, 5);
    }

    private static void noneEndsTheFrame() {
        Due.says("if there is none the FRAME ends");
        ObjectCore x = new ObjectCore();
        int thrower = Asm.function(x, 0, false, "NUMBER 5", "THROW", "THIS", "NUMBER 1", "PUT 3");
        Due.ends("by call", x, x.call(thrower, Due.object(0), 0), T, 5);
        Due.is("no ACTIVATION", x.state(1), 0);
        x.accessor(0, 5, thrower, thrower, 9);
        Due.ends("by get", x, x.get(0, 5), T, 5);
        Due.ends("by put", x, x.put(0, 5, 1, false), T, 5);
        Due.is("nothing behind it is done", x.own(0, 3, 0), 0);
        Due.is("no ACTIVATION then", x.state(1), 0);
    }

    private static void thrownWhereItWasCalled() {
        Due.says("it is thrown where that was called");
        String[] ways = {"CALL 0", "GET 5", "PUT 5", "GETAT", "PUTAT", "NEW 0"};
        String[][] pushing = {{"VAR 0 0", "THIS"}, {"THIS"}, {"THIS", "NUMBER 1"}, {"THIS", "NUMBER 5"},
            {"THIS", "NUMBER 5", "NUMBER 1"}, {"VAR 0 0"}};
        for (int i = 0; i < ways.length; i++) {
            ObjectCore x = new ObjectCore();
            int thrower = Asm.function(x, 0, false, "NUMBER 5", "THROW");
            x.accessor(0, 5, thrower, thrower, 9);
            int pushed = pushing[i].length;
            String[] start = Asm.join(new String[] {"NUMBER 40", "TRY " + (4 + pushed)}, pushing[i]);
            int caller = Asm.function(x, 1, false, Asm.join(start, ways[i], "GIVE", "ADD", "GIVE"));
            Due.ends("caught, " + ways[i], x, x.call(caller, Due.object(0), Due.object(thrower)), R, 45);
            Due.is("two FRAMES", x.state(3), 2);
            int open = Asm.function(x, 2, false, Asm.join(pushing[i], ways[i], "GIVE"));
            Due.ends("not caught, " + ways[i], x, x.call(open, Due.object(0), Due.object(thrower)), T, 5);
            Due.is("no ACTIVATION", x.state(1), 0);
        }
    }

    private static void throughSixFrames() {
        Due.says("if there is none the FRAME ends, and it is thrown where that was called");
        ObjectCore x = new ObjectCore();
        // The seventh CALL throws RANGE; the first FRAME alone has a HANDLER.
        int deep = Asm.function(x, 0, false, "THIS", "THIS", "CALL 0", "GIVE");
        int first = Asm.function(x, 1, false, "NUMBER 8", "TRY 6", "VAR 0 0", "VAR 0 0", "CALL 0", "GIVE", "SWAP",
                "DROP", "GIVE");
        Due.ends("caught by the first", x, x.call(first, 0, Due.object(deep)), R, Due.RANGE);
        Due.is("six FRAMES", x.state(3), 6);
        Due.is("no ACTIVATION", x.state(1), 0);
        Due.ends("by none", x, x.call(deep, Due.object(deep), 0), T, Due.RANGE);
    }

    private static void handlersEndWithTheirFrame() {
        Due.says("goes to the latest HANDLER of the FRAME");
        ObjectCore x = new ObjectCore();
        int open = Asm.function(x, 0, false, "TRY 5", "TRY 5", "TRY 5", "NUMBER 1", "GIVE", "GIVE");
        int after = Asm.function(x, 1, false, "VAR 0 0", "THIS", "CALL 0", "THROW", "GIVE", "NUMBER 7", "GIVE");
        Due.ends("given", x, x.call(after, 0, Due.object(open)), T, 1);
        Due.ends("a call of its own", x, x.call(open, 0, 0), R, 1);
        int plain = Asm.function(x, 2, false, "NUMBER 6", "THROW", "GIVE", "GIVE", "GIVE", "NUMBER 7", "GIVE");
        Due.ends("the next call has none", x, x.call(plain, 0, 0), T, 6);
        // A CALL from behind a HANDLER has none of its caller's.
        int caller = Asm.function(x, 3, false, "TRY 4", "VAR 0 0", "THIS", "CALL 0", "GIVE");
        Due.ends("thrown to the caller", x, x.call(caller, 0, Due.object(plain)), R, 6);
        Due.is("the callee's NUMBER 7 is not reached", x.state(2), 7);
    }

    private static void handlerThatIsNotThere() {
        Due.says("and it goes on there");
        Asm.due(R, U, "TRY 24", "NUMBER 5", "THROW");
        Asm.due(R, U, "TRY 3", "NUMBER 5", "THROW");
        Asm.due(R, 5, "TRY 3", "NUMBER 5", "THROW", "GIVE");
        // At its own TRY: that one is set again, and what was thrown is below.
        Asm.due(R, 5, "TRY 0", "VAR 0 1", "IF 7", "NUMBER 1", "SET 0 1", "NUMBER 5", "THROW", "GIVE");
    }

    private static void everyValueCanBeThrown() {
        Due.says("20 THROW: pops what is thrown");
        String[] lines = {"NUMBER 0", "SPECIAL 0", "SPECIAL 1", "SPECIAL 2", "SPECIAL 4", "SPECIAL 5", "THIS"};
        long[] values = {0, U, Due.NULL, Due.FALSE, Due.TYPE, Due.RANGE, Due.object(0)};
        for (int i = 0; i < lines.length; i++) {
            Asm.due(T, values[i], lines[i], "THROW");
            Asm.due(R, values[i], "TRY 3", lines[i], "THROW", "GIVE");
        }
    }
}
