/** Promises 1, 4, 7 and 13 to 17: what they answer at their edges, and what they refuse. */
public final class BoundsOfFaceTest {
    private static final int W = 1, E = 2, C = 4, SAYS_E = 16, SAYS_C = 32, SAYS_ALL = 120, ON = 127;
    private static final int GETTER = 1, SETTER = 8;
    private static final int R = Due.RETURNED;
    private static final long U = Due.UNDEFINED;
    private static final int[] FAR = {Integer.MIN_VALUE, Integer.MIN_VALUE + 1, Integer.MAX_VALUE - 1,
        Integer.MAX_VALUE};

    public static void main(String[] args) {
        constants();
        aNewObject();
        makePlain();
        makeFunction();
        makeKind();
        makeFull();
        sealFalse();
        sealTrue();
        sealOfNothing();
        ownOfNoProperty();
        ownOfNoSuchObjectOrKey();
        ownOfOthers();
        ownOfAnAccessor();
        ownCountsWhatIsThere();
        eachRefused();
        eachSkips();
        eachOfAll();
        ofRefused();
        ofTells();
        stateTells();
        clearAtOnce();
        clearOfAll();
        clearKeepsCodes();
        fiveHundredAndTwelveCalls();
        Due.end("BoundsOfFaceTest");
    }

    private static void constants() {
        Due.says("RETURNED = 0, THROWN = 1, LONG = 2, REFUSED = -1, FULL = -2");
        Due.is("RETURNED", ObjectCore.RETURNED, 0);
        Due.is("THROWN", ObjectCore.THROWN, 1);
        Due.is("LONG", ObjectCore.LONG, 2);
        Due.is("REFUSED", ObjectCore.REFUSED, -1);
        Due.is("FULL", ObjectCore.FULL, -2);
    }

    private static final String AS_AT_FIRST = "result " + U + ", state 3 0 0 0; OBJECT 0 0 -1 1 0; OBJECT 1 0 0 1 0;"
            + " OBJECT 2 0 0 1 0";

    private static void aNewObject() {
        Due.says("three OBJECTS, without PROPERTIES");
        ObjectCore x = new ObjectCore();
        Due.same("at first", Picture.all(x), AS_AT_FIRST);
        for (int code = 0; code < 8; code++) {
            Due.is("no instructions", x.code(code, true), 0);
        }
        // One object knows nothing of another.
        ObjectCore y = new ObjectCore();
        y.make(1, 5);
        y.define(0, 3, 1, ON);
        y.seal(1, 2);
        y.get(0, 3);
        Due.same("beside another", Picture.all(x), AS_AT_FIRST);
    }

    private static void makePlain() {
        Due.says("kind 0: PLAIN, with PROTOTYPE a (-1: none)");
        ObjectCore x = new ObjectCore();
        int[] prototypes = {-1, 0, 1, 2, 3, 7};
        for (int i = 0; i < prototypes.length; i++) {
            Due.is("make 0 " + prototypes[i], x.make(0, prototypes[i]), 3 + i);
            Due.is("its PROTOTYPE", x.of(3 + i, 1), prototypes[i]);
            Due.is("its kind", x.of(3 + i, 0), 0);
        }
        Due.says("a is an OBJECT or -1 for PLAIN");
        int[] none = {-2, 9, 10, 31, 32, Integer.MAX_VALUE, Integer.MIN_VALUE};
        for (int a : none) {
            Due.is("make 0 " + a, x.make(0, a), Due.REFUSED);
        }
        Due.is("none made", x.state(0), 9);
        // The next one cannot be its own PROTOTYPE, but the one behind it may have it.
        Due.is("itself", x.make(0, 9), Due.REFUSED);
        Due.is("make 0 -1", x.make(0, -1), 9);
        Due.is("the one before", x.make(0, 9), 10);
    }

    private static void makeFunction() {
        Due.says("0..7 for a FUNCTION");
        ObjectCore x = new ObjectCore();
        for (int code = 0; code < 8; code++) {
            Asm.write(x, code, false, "NUMBER " + (50 + code), "GIVE");
            Due.is("make 2 " + code, x.make(2, code), 3 + code);
            Due.ends("its CODE", x, x.call(3 + code, 0, 0), R, 50 + code);
        }
        int[] none = {-1, 8, 31, Integer.MAX_VALUE, Integer.MIN_VALUE};
        for (int a : none) {
            Due.is("make 2 " + a, x.make(2, a), Due.REFUSED);
        }
        Due.is("none made", x.state(0), 11);
        Due.says("and no ACTIVATION around it");
        Asm.write(x, 0, false, "VAR 1 0", "GIVE");
        Due.ends("VAR 1 0", x, x.call(3, 0, 5), R, U);
    }

    private static void makeKind() {
        Due.says("REFUSED if a or kind is not as said");
        ObjectCore x = new ObjectCore();
        int[] none = {-1, 3, 4, Integer.MAX_VALUE, Integer.MIN_VALUE};
        for (int kind : none) {
            for (int a = -1; a <= 17; a++) {
                Due.is("make " + kind + " " + a, x.make(kind, a), Due.REFUSED);
            }
        }
        Due.is("none made", x.state(0), 3);
        for (int kind = 0; kind < 3; kind++) {
            Due.is("make " + kind, x.make(kind, 2), 3 + kind);
            Due.is("kind " + kind, x.of(3 + kind, 0), kind);
        }
    }

    private static void makeFull() {
        Due.says("FULL if there are 32");
        ObjectCore x = new ObjectCore();
        for (int object = 3; object < 31; object++) {
            x.make(object % 3, 0);
        }
        Due.is("the 32nd", x.make(1, 16), 31);
        String before = Picture.object(x, 31);
        for (int kind = 0; kind < 3; kind++) {
            Due.is("the 33rd", x.make(kind, 0), Due.FULL);
        }
        Due.is("32", x.state(0), 32);
        Due.same("the 32nd is as it was", Picture.object(x, 31), before);
    }

    private static void sealFalse() {
        Due.says("false if there is none, or how is not 0..2");
        ObjectCore x = new ObjectCore();
        x.define(0, 3, 1, ON);
        String before = Picture.all(x);
        int[] objects = {-1, 3, 31, 32, Integer.MAX_VALUE, Integer.MIN_VALUE};
        for (int object : objects) {
            for (int how = 0; how < 3; how++) {
                Due.is("OBJECT " + object, x.seal(object, how), false);
            }
        }
        int[] hows = {-1, 3, Integer.MAX_VALUE, Integer.MIN_VALUE};
        for (int how : hows) {
            Due.is("how " + how, x.seal(0, how), false);
        }
        Due.same("nothing changes", Picture.all(x), before);
    }

    private static void sealTrue() {
        Due.says("with 1 and 2 its PROPERTIES not CONFIGURABLE; with 2 its DATA not WRITABLE");
        int[] data = {W | E | C, W | E, E};
        int[] pairs = {E | C, E, E};
        for (int how = 0; how < 3; how++) {
            ObjectCore x = new ObjectCore();
            for (int object = 3; object < 32; object++) {
                x.make(2, 0);
            }
            int[] whose = {0, 31};
            for (int object : whose) {
                x.define(object, 0, 1, ON);
                x.define(object, 31, 1, ON);
                x.accessor(object, 30, 4, 5, 63);
                x.define(object, 15, 1, ON - E);
                Due.is("seal", x.seal(object, how), true);
                Due.is("not EXTENSIBLE", x.of(object, 2), 0);
                Due.is("KEY 0", x.own(object, 0, 1), data[how]);
                Due.is("KEY 31", x.own(object, 31, 1), data[how]);
                Due.is("KEY 15", x.own(object, 15, 1), data[how] & ~E);
                Due.is("KEY 30", x.own(object, 30, 1), pairs[how]);
                Due.is("the SETTER of KEY 30", x.own(object, 30, 3), Due.object(5));
                Due.is("the VALUE of KEY 31", x.own(object, 31, 2), 1);
            }
            Due.is("one beside is EXTENSIBLE", x.of(1, 2) + x.of(30, 2), 2);
        }
        Due.says("As SEAL does: true");
        ObjectCore x = new ObjectCore();
        x.define(0, 3, 1, ON);
        Due.is("0", x.seal(0, 0), true);
        Due.is("0 again", x.seal(0, 0), true);
        Due.is("2", x.seal(0, 2), true);
        Due.is("0 gives nothing back", x.seal(0, 0), true);
        Due.is("not CONFIGURABLE, not WRITABLE", x.own(0, 3, 1), E);
        Due.is("not EXTENSIBLE", x.of(0, 2), 0);
    }

    private static void sealOfNothing() {
        Due.says("it is not EXTENSIBLE");
        for (int how = 0; how < 3; how++) {
            ObjectCore x = new ObjectCore();
            Due.is("without PROPERTIES", x.seal(2, how), true);
            Due.is("nothing new", x.define(2, 0, 1, ON), 0);
            int array = x.make(1, 16);
            Due.is("an ARRAY", x.seal(array, how), true);
            Due.is("its LENGTH", x.own(array, 16, 1), how == 2 ? 0 : W);
            Due.is("no element", x.define(array, 0, 1, ON), 0);
            // What was removed and what was sealed does not matter to another OBJECT that comes.
            int next = x.make(0, 0);
            Due.is("the next is EXTENSIBLE", x.define(next, 0, 1, ON), 1);
            Due.is("all on", x.own(next, 0, 1), 7);
        }
    }

    private static void ownOfNoProperty() {
        Due.says("what 0: 0 none, 1 DATA, 2 an ACCESSOR");
        ObjectCore x = new ObjectCore();
        x.define(0, 3, 1, 0);
        x.accessor(0, 4, -1, -1, GETTER);
        Due.is("none", x.own(0, 5, 0), 0);
        Due.is("DATA", x.own(0, 3, 0), 1);
        Due.is("an ACCESSOR", x.own(0, 4, 0), 2);
        Due.is("a PROTOTYPE's is not its own", x.own(1, 3, 0), 0);
        Due.says("UNDEFINED if it has not that");
        for (int what = 1; what <= 4; what++) {
            Due.is("none, what " + what, x.own(0, 5, what), U);
            Due.is("a PROTOTYPE's, what " + what, x.own(1, 3, what), U);
        }
        Due.is("DATA has no SETTER", x.own(0, 3, 3), U);
        x.define(0, 6, 1, ON);
        x.remove(0, 6);
        for (int what = 1; what <= 4; what++) {
            Due.is("removed, what " + what, x.own(0, 6, what), U);
        }
    }

    private static void ownOfNoSuchObjectOrKey() {
        Due.says("own: UNDEFINED also if there is no such OBJECT or KEY, whatever what is");
        ObjectCore x = new ObjectCore();
        x.define(0, 0, 1, ON);
        x.define(2, 31, 1, ON);
        int[][] none = {{-1, 0}, {3, 0}, {31, 0}, {32, 0}, {0, -1}, {0, 32}, {1, -1}, {3, -1}, {Integer.MAX_VALUE, 31},
            {Integer.MIN_VALUE, 0}, {0, Integer.MAX_VALUE}, {2, Integer.MIN_VALUE}};
        for (int[] pair : none) {
            for (int what = -1; what <= 5; what++) {
                Due.is("own " + pair[0] + " " + pair[1] + " " + what, x.own(pair[0], pair[1], what), U);
            }
        }
    }

    private static void ownOfOthers() {
        Due.says("UNDEFINED if it has not that, or for others");
        ObjectCore x = new ObjectCore();
        x.define(0, 3, 1, ON);
        x.accessor(0, 4, -1, -1, GETTER);
        for (int key = 3; key <= 5; key++) {
            Due.is("what -1", x.own(0, key, -1), U);
            Due.is("what 5", x.own(0, key, 5), U);
            for (int what : FAR) {
                Due.is("what " + what, x.own(0, key, what), U);
            }
        }
    }

    private static void ownOfAnAccessor() {
        Due.says("of an ACCESSOR what 1 counts WRITABLE as 0");
        ObjectCore x = new ObjectCore();
        int function = x.make(2, 0);
        for (int on = 0; on < 8; on++) {
            x.accessor(0, on, function, function, GETTER | SETTER | SAYS_E | SAYS_C | on & (E | C));
            Due.is("made " + on, x.own(0, on, 1), on & (E | C));
            x.define(0, 8 + on, 1, SAYS_ALL | on | C);
            x.accessor(0, 8 + on, function, -1, GETTER);
            Due.is("from DATA " + on, x.own(0, 8 + on, 1), (on | C) & (E | C));
            Due.is("its GETTER", x.own(0, 8 + on, 2), Due.object(function));
            Due.is("its SETTER", x.own(0, 8 + on, 3), U);
        }
        Due.is("SETTER", x.own(0, 0, 3), Due.object(function));
    }

    private static void ownCountsWhatIsThere() {
        Due.says("4: how many were made before it that are there");
        ObjectCore x = new ObjectCore();
        for (int key = 0; key < 32; key++) {
            x.define(1, key, key, ON);
        }
        for (int key = 0; key < 32; key += 2) {
            x.remove(1, key);
        }
        for (int key = 1; key < 32; key += 2) {
            Due.is("KEY " + key, x.own(1, key, 4), key / 2);
        }
        for (int key = 30; key >= 0; key -= 2) {
            x.define(1, key, key, ON);
        }
        for (int key = 0; key < 32; key += 2) {
            Due.is("KEY " + key + " made anew", x.own(1, key, 4), 31 - key / 2);
        }
        Due.is("32", x.of(1, 3), 32);
    }

    private static void eachRefused() {
        Due.says("REFUSED if there is none");
        ObjectCore x = new ObjectCore();
        Due.is("no PROPERTIES", x.each(0, 0), Due.REFUSED);
        x.define(0, 0, 1, ON);
        Due.is("KEY 0", x.each(0, 0), 0);
        Due.is("KEY 0 of a PROTOTYPE", x.each(2, 0), 0);
        Due.is("behind the last", x.each(0, 1), Due.REFUSED);
        Due.is("behind the last of a PROTOTYPE", x.each(2, 1), Due.REFUSED);
        int[] objects = {-1, 3, 31, 32, Integer.MAX_VALUE, Integer.MIN_VALUE};
        for (int object : objects) {
            Due.is("OBJECT " + object, x.each(object, 0), Due.REFUSED);
        }
        Due.says("each: REFUSED for k below 0");
        Due.is("-1", x.each(0, -1), Due.REFUSED);
        for (int k : FAR) {
            Due.is("k " + k, x.each(0, k), Due.REFUSED);
        }
        int alone = x.make(0, -1);
        Due.is("without PROTOTYPE", x.each(alone, 0), Due.REFUSED);
    }

    private static void eachSkips() {
        Due.says("without those that one before had, and those that are not ENUMERABLE");
        ObjectCore x = new ObjectCore();
        int child = x.make(0, 1);
        x.define(child, 31, 1, ON);
        x.define(child, 7, 1, ON - E);
        x.define(child, 0, 1, ON);
        x.define(1, 0, 1, ON);
        x.define(1, 7, 1, ON);
        x.accessor(1, 9, -1, -1, 63);
        x.define(1, 8, 1, ON - E);
        x.define(0, 8, 1, ON);
        x.define(0, 31, 1, ON);
        x.define(0, 1, 1, ON);
        int[] due = {31, 0, 9, 1};
        for (int k = 0; k < due.length; k++) {
            Due.is("each " + k, x.each(child, k), due[k]);
        }
        Due.is("no more", x.each(child, due.length), Due.REFUSED);
        int[] of1 = {0, 7, 9, 31, 1};
        for (int k = 0; k < of1.length; k++) {
            Due.is("each of 1, " + k, x.each(1, k), of1[k]);
        }
        Due.is("no more of 1", x.each(1, of1.length), Due.REFUSED);
        x.remove(child, 7);
        Due.is("no longer had before", x.each(child, 2), 7);
    }

    private static void eachOfAll() {
        Due.says("The k-th KEY (0 first) that is found going through an OBJECT and its PROTOTYPES, each in its order");
        ObjectCore x = new ObjectCore();
        int child = x.make(0, 0);
        for (int key = 0; key < 32; key++) {
            // Even ones backwards at first, then odd ones in the PROTOTYPE.
            x.define(key < 16 ? child : 0, key < 16 ? 30 - 2 * key : 2 * key - 31, 1, ON);
        }
        for (int k = 0; k < 32; k++) {
            Due.is("each " + k, x.each(child, k), k < 16 ? 30 - 2 * k : 2 * k - 31);
        }
        Due.is("each 32", x.each(child, 32), Due.REFUSED);
    }

    private static void ofRefused() {
        Due.says("REFUSED if there is none, or for others");
        ObjectCore x = new ObjectCore();
        int[] objects = {-1, 3, 31, 32, Integer.MAX_VALUE, Integer.MIN_VALUE};
        for (int object : objects) {
            for (int what = -1; what <= 4; what++) {
                Due.is("of " + object + " " + what, x.of(object, what), Due.REFUSED);
            }
        }
        for (int object = 0; object < 3; object++) {
            Due.is("what -1", x.of(object, -1), Due.REFUSED);
            Due.is("what 4", x.of(object, 4), Due.REFUSED);
            for (int what : FAR) {
                Due.is("what " + what, x.of(object, what), Due.REFUSED);
            }
        }
    }

    private static void ofTells() {
        Due.says("3: how many PROPERTIES it has");
        ObjectCore x = new ObjectCore();
        for (int count = 0; count <= 32; count++) {
            Due.is("PROPERTIES", x.of(0, 3), count);
            if (count < 32) {
                x.define(0, count, 1, ON);
                x.define(0, count, 2, ON);
            }
        }
        for (int count = 31; count >= 0; count--) {
            x.remove(0, count);
            x.remove(0, count);
            Due.is("PROPERTIES left", x.of(0, 3), count);
        }
        Due.says("1: its PROTOTYPE, -1 for none");
        Due.is("none", x.of(0, 1), -1);
        Due.is("0", x.of(1, 1), 0);
        Due.says("2: 1 if it is EXTENSIBLE, else 0");
        Due.is("EXTENSIBLE", x.of(0, 2), 1);
        x.seal(0, 0);
        Due.is("not EXTENSIBLE", x.of(0, 2), 0);
    }

    private static void stateTells() {
        Due.says("What 0: how many OBJECTS, 1: ACTIVATIONS there are");
        ObjectCore x = new ObjectCore();
        for (int count = 3; count < 32; count++) {
            Due.is("OBJECTS", x.state(0), count);
            x.make(0, 0);
        }
        Due.is("32 OBJECTS", x.state(0), 32);
        x.make(0, 0);
        Due.is("32 OBJECTS still", x.state(0), 32);
        Due.is("no ACTIVATION", x.state(1), 0);
    }

    private static void clearAtOnce() {
        Due.says("how many OBJECTS there were");
        ObjectCore x = new ObjectCore();
        Due.is("at once", x.clear(), 3);
        Due.is("again", x.clear(), 3);
        x.make(0, 0);
        Due.is("with one more", x.clear(), 4);
        Due.same("as at first", Picture.all(x), AS_AT_FIRST);
        for (int object = 3; object < 32; object++) {
            x.make(1, 16);
        }
        Due.is("with all", x.clear(), 32);
        Due.same("as at first again", Picture.all(x), AS_AT_FIRST);
    }

    private static void clearOfAll() {
        Due.says("All is as at first");
        ObjectCore x = new ObjectCore();
        int maker = Asm.function(x, 0, false, "FUNCTION 0", "NUMBER 5", "SET 0 0", "JUMP 3");
        for (int object = 0; object < 3; object++) {
            x.define(object, 31, 1, ON);
            x.accessor(object, 0, maker, maker, 63);
            x.seal(object, object);
        }
        Due.is("LONG", x.call(maker, 0, 0), Due.LONG);
        Due.is("an ACTIVATION stays", x.state(1), 1);
        x.get(0, 31);
        Due.is("clear", x.clear(), 5);
        Due.same("as at first", Picture.all(x), AS_AT_FIRST);
        // What comes then has nothing of what was.
        Due.is("an ARRAY where the FUNCTION was", x.make(1, 2), 3);
        Due.same("it is new", Picture.object(x, 3), "OBJECT 3 1 2 1 1, KEY 16: " + Picture.of(1, W, 2, U, 0));
        Due.is("a PROPERTY", x.define(0, 31, 1, 0), 1);
        Due.same("it is new, too", Picture.property(x, 0, 31), Picture.of(1, 0, U, U, 0));
    }

    private static void clearKeepsCodes() {
        Due.says("but for the CODES");
        ObjectCore x = new ObjectCore();
        for (int code = 0; code < 8; code++) {
            Asm.write(x, code, code % 2 == 1, "NUMBER 3", "NUMBER " + (50 + code), "PUT 3", "GIVE");
        }
        x.clear();
        for (int code = 0; code < 8; code++) {
            boolean strict = code % 2 == 1;
            int function = x.make(2, code);
            Due.is("numbered anew", function, 3 + code);
            Due.ends("CODE " + code, x, x.call(function, 0, 0), strict ? Due.THROWN : R, strict ? Due.TYPE : 50 + code);
        }
        x.clear();
        for (int code = 0; code < 8; code++) {
            Due.is("further ones", x.add(code, 7, 0, 0), 5);
            Due.is("five then", x.code(code, false), 5);
        }
    }

    private static void fiveHundredAndTwelveCalls() {
        Due.says("An object is used for at most 512 calls after it has been made");
        ObjectCore x = new ObjectCore();
        for (int i = 0; i < 255; i++) {
            Due.is("call " + 2 * i, x.define(i % 3, i % 32, i, ON), 1);
            Due.is("call " + (2 * i + 1), x.remove(i % 3, i % 32), 1);
        }
        Due.is("the 511th", x.define(0, 31, 9, ON), 1);
        Due.is("the 512th", x.own(0, 31, 4), 0);
        // The first seven calls write a CODE and make a FUNCTION; each that follows has FRAMES that end.
        ObjectCore y = new ObjectCore();
        int deep = Asm.function(y, 0, false, "TRY 4", "THIS", "THIS", "CALL 0", "GIVE");
        for (int i = 8; i < 512; i++) {
            y.call(deep, Due.object(deep), i);
        }
        Due.is("the 512th call", y.call(deep, Due.object(deep), 0), R);
        // clear does not wear out, either.
        ObjectCore z = new ObjectCore();
        for (int i = 0; i < 255; i++) {
            z.make(1, 16);
            z.clear();
        }
        Due.is("the 511th, make", z.make(1, 16), 3);
        Due.is("the 512th, state", z.state(0), 4);
    }
}
