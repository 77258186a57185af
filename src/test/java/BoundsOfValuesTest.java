/** Terms: which VALUES, OBJECTS and KEYS there are, what lies just outside, and how far LOOKING goes. */
public final class BoundsOfValuesTest {
    private static final int R = Due.RETURNED;
    private static final int T = Due.THROWN;
    private static final int ON = 127;
    private static final int FIRST_FREE = 5;

    public static void main(String[] args) {
        numbers();
        specials();
        objects();
        objectsWithAllThere();
        truthy();
        kindsOfValues();
        firstObjects();
        atMost32Objects();
        thirtySecondByEachInstruction();
        newObjectsAreExtensible();
        allKeys();
        differentKeysInOrder();
        indexesLengthAndKin();
        lookingAlongTheLongestChain();
        lookingStopsAtTheFirst();
        Due.end("BoundsOfValuesTest");
    }

    /** OBJECT 3 gives its THIS, OBJECT 4 its ARGUMENT; there are so many OBJECTS. */
    private static ObjectCore withObjects(int count) {
        ObjectCore x = new ObjectCore();
        Asm.function(x, 0, false, "THIS", "GIVE");
        Asm.function(x, 1, false, "VAR 0 0", "GIVE");
        fill(x, count);
        return x;
    }

    private static void fill(ObjectCore x, int count) {
        for (int object = x.state(0); object < count; object++) {
            x.make(0, 0);
        }
    }

    private static void isValue(int objects, long value) {
        ObjectCore x = withObjects(objects);
        Due.is("define of " + value, x.define(0, 3, value, 64), 1);
        Due.is("VALUE " + value, x.own(0, 3, 2), value);
        Due.ends("put of " + value, x, x.put(0, 4, value, true), R, value);
        Due.is("VALUE put " + value, x.own(0, 4, 2), value);
        Due.ends("self " + value, x, x.call(3, value, 0), R, value);
        Due.ends("argument " + value, x, x.call(4, 0, value), R, value);
    }

    private static void isNoValue(int objects, long value) {
        ObjectCore x = withObjects(objects);
        x.put(0, 5, 8, true);
        Due.is("define of " + value, x.define(0, 3, value, 64), Due.REFUSED);
        Due.is("put of " + value, x.put(0, 4, value, true), Due.REFUSED);
        Due.is("put of " + value + ", not STRICT", x.put(0, 4, value, false), Due.REFUSED);
        Due.is("self " + value, x.call(3, value, 0), Due.REFUSED);
        Due.is("argument " + value, x.call(4, 0, value), Due.REFUSED);
        Due.is("both " + value, x.call(4, value, value), Due.REFUSED);
        Due.is("no PROPERTY of it", x.of(0, 3), 1);
        Due.is("the latest result", x.result(), 8);
    }

    private static void numbers() {
        Due.says("A VALUE is a long: a NUMBER is an int");
        long[] are = {Integer.MIN_VALUE, Integer.MIN_VALUE + 1, -1, 0, 1, Integer.MAX_VALUE - 1, Integer.MAX_VALUE};
        for (long value : are) {
            isValue(FIRST_FREE, value);
        }
        long[] none = {Integer.MIN_VALUE - 1L, Integer.MAX_VALUE + 1L, (1L << 32) - 1, 1L << 32, (1L << 32) + 5,
            -(1L << 32), -(1L << 33), -(1L << 34), Long.MIN_VALUE, Long.MIN_VALUE + 1, Long.MAX_VALUE};
        for (long value : none) {
            isNoValue(FIRST_FREE, value);
        }
    }

    private static void specials() {
        Due.says("UNDEFINED 2^33, NULL 2^33 + 1, FALSE 2^33 + 2, TRUE 2^33 + 3,"
                + " the errors TYPE 2^33 + 4 and RANGE 2^33 + 5");
        for (long value = 1L << 33; value <= (1L << 33) + 5; value++) {
            isValue(FIRST_FREE, value);
        }
        long[] none = {(1L << 33) - 1, (1L << 33) + 6, (1L << 33) + 7, (1L << 33) + (1L << 32)};
        for (long value : none) {
            isNoValue(FIRST_FREE, value);
        }
        Asm.due(T, (1L << 33) + 4, "NUMBER 1", "THIS", "CALL 0");
        Asm.due(T, (1L << 33) + 5, Asm.onto(11));
        Asm.due(R, (1L << 33) + 2, "NUMBER 1", "NUMBER 1", "LESS", "GIVE");
        Asm.due(R, (1L << 33) + 3, "NUMBER 1", "NUMBER 2", "LESS", "GIVE");
        Asm.due(R, 1L << 33, "THIS", "GET 3", "GIVE");
    }

    private static void objects() {
        Due.says("2^34 + k OBJECT k");
        for (int object = 0; object < FIRST_FREE; object++) {
            isValue(FIRST_FREE, (1L << 34) + object);
        }
        long[] none = {(1L << 34) - 1, (1L << 34) + FIRST_FREE, (1L << 34) + 31, (1L << 34) + 32,
            (1L << 34) + (1L << 32), (1L << 34) + Integer.MAX_VALUE, 1L << 35, 3L << 34};
        for (long value : none) {
            isNoValue(FIRST_FREE, value);
        }
    }

    private static void objectsWithAllThere() {
        Due.says("an OBJECT that is not there, or none of those");
        isValue(32, Due.object(0));
        isValue(32, Due.object(31));
        isNoValue(32, Due.object(32));
        isNoValue(32, Due.object(33));
        isValue(31, Due.object(30));
        isNoValue(31, Due.object(31));
    }

    private static void truthy() {
        Due.says("TRUTHY are all but UNDEFINED, NULL, FALSE and the NUMBER 0");
        String[] others = {"SPECIAL 0", "SPECIAL 1", "SPECIAL 2", "NUMBER 0"};
        String[] are = {"SPECIAL 3", "SPECIAL 4", "SPECIAL 5", "NUMBER 1", "NUMBER -1", "NUMBER 2147483647",
            "NUMBER -2147483648", "THIS", "VAR 0 0", "ARRAY 0", "FUNCTION 0"};
        for (String line : others) {
            Asm.due(R, 1, line, "IF 4", "NUMBER 1", "GIVE", "NUMBER 2", "GIVE");
        }
        for (String line : are) {
            Asm.due(R, 2, line, "IF 4", "NUMBER 1", "GIVE", "NUMBER 2", "GIVE");
        }
    }

    private static void kindsOfValues() {
        Due.says("the NUMBER 0, 1, 2 for an OBJECT as it is PLAIN .., 3 for a NUMBER, 4 + k for 2^33 + k");
        String[] lines = {"THIS", "ARRAY 0", "FUNCTION 0", "NUMBER 0", "SPECIAL 0", "SPECIAL 1", "SPECIAL 2",
            "SPECIAL 3", "SPECIAL 4", "SPECIAL 5"};
        for (int kind = 0; kind < lines.length; kind++) {
            Asm.due(R, kind, lines[kind], "OF", "GIVE");
        }
        Asm.due(R, 3, "NUMBER 2147483647", "OF", "GIVE");
        Asm.due(R, 3, "NUMBER -2147483648", "OF", "GIVE");
    }

    private static void firstObjects() {
        Due.says("There are at first 0, PLAIN, without PROTOTYPE; 1, the PROTOTYPE of FUNCTIONS, and 2, that of ARRAYS,"
                + " both PLAIN, with PROTOTYPE 0");
        ObjectCore x = new ObjectCore();
        Due.is("OBJECTS", x.state(0), 3);
        int[] prototypes = {-1, 0, 0};
        for (int object = 0; object < 3; object++) {
            Due.is("kind of " + object, x.of(object, 0), 0);
            Due.is("PROTOTYPE of " + object, x.of(object, 1), prototypes[object]);
        }
        int function = Asm.function(x, 0, false, "FUNCTION 0", "ARRAY 0", "GIVE");
        Due.is("PROTOTYPE of a FUNCTION", x.of(function, 1), 1);
        Due.is("PROTOTYPE of an ARRAY", x.of(x.make(1, 0), 1), 2);
        x.call(function, 0, 0);
        Due.is("PROTOTYPE of a FUNCTION by an instruction", x.of(5, 1), 1);
        Due.is("PROTOTYPE of an ARRAY by an instruction", x.of(6, 1), 2);
    }

    private static void atMost32Objects() {
        Due.says("OBJECTS are numbered from 0 as they are made, at most 32");
        for (int kind = 0; kind < 3; kind++) {
            ObjectCore x = new ObjectCore();
            for (int object = 3; object < 32; object++) {
                Due.is("OBJECT " + object, x.make(kind, 0), object);
            }
            Due.is("one more", x.make(kind, 0), Due.FULL);
            Due.is("still 32", x.state(0), 32);
            Due.is("the last is there", x.of(31, 0), kind);
            Due.is("none behind it", x.of(32, 0), Due.REFUSED);
        }
    }

    private static void thirtySecondByEachInstruction() {
        Due.says("A new OBJECT throws RANGE if there are 32");
        String[] making = {"OBJECT", "ARRAY 0", "FUNCTION 2", "NEW 0"};
        int[] kinds = {0, 1, 2, 0};
        for (int i = 0; i < making.length; i++) {
            ObjectCore x = new ObjectCore();
            int empty = x.make(2, 2);
            int maker = Asm.function(x, 0, false, "VAR 0 0", making[i], "GIVE");
            fill(x, 31);
            Due.ends(making[i] + ", 31 there", x, x.call(maker, 0, Due.object(empty)), R, Due.object(31));
            Due.is(making[i] + ", its kind", x.of(31, 0), kinds[i]);
            Due.ends(making[i] + ", 32 there", x, x.call(maker, 0, Due.object(empty)), T, Due.RANGE);
            Due.is(making[i] + ", still 32", x.state(0), 32);
            Due.is(making[i] + ", the instruction was begun", x.state(2), 2);
        }
    }

    private static void newObjectsAreExtensible() {
        Due.says("is EXTENSIBLE at first or not");
        ObjectCore x = new ObjectCore();
        x.make(0, -1);
        x.make(1, 16);
        x.make(2, 7);
        x.seal(0, 2);
        for (int object = 1; object < 6; object++) {
            Due.is("OBJECT " + object, x.of(object, 2), 1);
        }
        Due.is("OBJECT 0", x.of(0, 2), 0);
        Due.is("without PROPERTIES", x.of(3, 3) + x.of(5, 3), 0);
        Due.is("with LENGTH", x.of(4, 3), 1);
    }

    private static void allKeys() {
        Due.says("PROPERTIES of an OBJECT have different KEYS 0..31");
        int[] whose = {0, 31};
        for (int object : whose) {
            ObjectCore x = new ObjectCore();
            fill(x, 32);
            for (int key = 31; key >= 0; key--) {
                Due.is("KEY " + key, x.define(object, key, 100 + key, ON), 1);
            }
            Due.is("32 PROPERTIES", x.of(object, 3), 32);
            for (int key = 0; key < 32; key++) {
                Due.is("VALUE of " + key, x.own(object, key, 2), 100 + key);
                Due.is("place of " + key, x.own(object, key, 4), 31 - key);
                Due.is("each " + key, x.each(object, key), 31 - key);
            }
            Due.is("each behind the last", x.each(object, 32), Due.REFUSED);
            Due.is("none of the one before", x.of(object == 0 ? 1 : 30, 3), 0);
            Due.is("KEY 32", x.define(object, 32, 0, ON), Due.REFUSED);
            Due.is("KEY -1", x.define(object, -1, 0, ON), Due.REFUSED);
        }
    }

    private static void differentKeysInOrder() {
        Due.says("and an order, in which they were made");
        ObjectCore x = new ObjectCore();
        x.define(0, 31, 1, ON);
        x.define(0, 0, 1, ON);
        x.define(0, 15, 1, ON);
        x.define(0, 31, 2, ON);
        x.accessor(0, 0, -1, -1, 9);
        x.put(0, 31, 3, true);
        Due.same("made first", Picture.property(x, 0, 31), Picture.of(1, 7, 3, Due.UNDEFINED, 0));
        Due.same("second", Picture.property(x, 0, 0), Picture.of(2, 6, Due.UNDEFINED, Due.UNDEFINED, 1));
        Due.same("third", Picture.property(x, 0, 15), Picture.of(1, 7, 1, Due.UNDEFINED, 2));
        x.remove(0, 31);
        x.define(0, 31, 4, ON);
        Due.same("made anew: the last", Picture.property(x, 0, 31), Picture.of(1, 7, 4, Due.UNDEFINED, 2));
        Due.is("the first then", x.own(0, 0, 4), 0);
        Due.is("three", x.of(0, 3), 3);
    }

    private static void indexesLengthAndKin() {
        Due.says("KEYS 0..15 are INDEXES, 16 is LENGTH, 17 KIN");
        for (int key = 0; key < 32; key++) {
            ObjectCore x = new ObjectCore();
            int array = x.make(1, 0);
            Due.is("KEY " + key, x.define(array, key, 9, key == 16 ? 64 : ON), 1);
            Due.is("LENGTH with " + key, x.own(array, 16, 2), key < 16 ? key + 1 : key == 16 ? 9 : 0);
            int maker = Asm.function(x, 0, false, "VAR 0 0", "NEW 0", "GIVE");
            x.define(maker, key, Due.object(array), ON);
            x.call(maker, 0, Due.object(maker));
            // Each NEW calls the FUNCTION itself, where VAR 0 0 is UNDEFINED: that throws, but the OBJECT is there.
            Due.is("PROTOTYPE with " + key, x.of(5, 1), key == 17 ? array : 0);
        }
    }

    /** OBJECTS 31, 30, .. 3, 1, 0: no chain can be longer. */
    private static ObjectCore longestChain() {
        ObjectCore x = new ObjectCore();
        x.make(0, 1);
        for (int object = 4; object < 32; object++) {
            x.make(0, object - 1);
        }
        return x;
    }

    private static void lookingAlongTheLongestChain() {
        Due.says("LOOKING for a KEY goes from an OBJECT along its PROTOTYPES to the first that has it");
        ObjectCore x = longestChain();
        x.define(0, 5, 77, 64 + 16 + 2);
        Due.is("the chain's end", x.of(31, 1), 30);
        Due.ends("get", x, x.get(31, 5), R, 77);
        Due.ends("get of none", x, x.get(31, 6), R, Due.UNDEFINED);
        Due.ends("put, not WRITABLE there", x, x.put(31, 5, 1, true), T, Due.TYPE);
        Due.is("each", x.each(31, 0), 5);
        Due.is("each of none", x.each(31, 1), Due.REFUSED);
        x.define(31, 17, 1, 0);
        Due.is("own alone is told by own", x.own(31, 5, 0), 0);

        ObjectCore y = new ObjectCore();
        int has = Asm.function(y, 0, false, "THIS", "HAS 5", "GIVE");
        int is = Asm.function(y, 1, false, "THIS", "VAR 0 0", "IS", "GIVE");
        y.make(0, 1);
        for (int object = 6; object < 32; object++) {
            y.make(0, object - 1);
        }
        Due.ends("HAS of none", y, y.call(has, Due.object(31), 0), R, Due.FALSE);
        y.define(0, 5, 1, 0);
        Due.ends("HAS", y, y.call(has, Due.object(31), 0), R, Due.TRUE);
        y.define(1, 17, Due.object(0), ON);
        Due.ends("IS", y, y.call(is, Due.object(31), Due.object(is)), R, Due.TRUE);
        y.define(is, 17, Due.object(31), ON);
        Due.ends("IS not", y, y.call(is, Due.object(31), Due.object(is)), R, Due.FALSE);
    }

    private static void lookingStopsAtTheFirst() {
        Due.says("to the first that has it");
        ObjectCore x = longestChain();
        for (int object = 0; object < 32; object++) {
            x.define(object, 5, object, ON);
        }
        for (int object = 31; object >= 3; object--) {
            Due.ends("get from 31", x, x.get(31, 5), R, object);
            x.remove(object, 5);
        }
        Due.ends("get from 31, of 1", x, x.get(31, 5), R, 1);
        x.remove(1, 5);
        Due.ends("get from 31, of 0", x, x.get(31, 5), R, 0);
        x.remove(0, 5);
        Due.ends("2 is not on the way", x, x.get(31, 5), R, Due.UNDEFINED);
        ObjectCore y = new ObjectCore();
        int alone = y.make(0, -1);
        y.define(0, 5, 1, ON);
        Due.ends("without PROTOTYPE", y, y.get(alone, 5), R, Due.UNDEFINED);
    }
}
