/** Promises 5, 6, 10 and 18 for ARRAYS: LENGTH and elements. */
public final class ArraysTest {
    private static final int W = 1, C = 4, SAYS_W = 8, SAYS_E = 16, SAYS_C = 32, SAYS_VALUE = 64, ON = 127;
    private static final int LENGTH = 16;

    public static void main(String[] args) {
        elementsGrowLength();
        lengthNotWritable();
        lengthShrinks();
        lengthShrinksToWhatStays();
        lengthMayNotBeDefinedSo();
        lengthOutOfRange();
        lengthGrows();
        sealedArray();
        onlyArrays();
        Due.end("ArraysTest");
    }

    private static ObjectCore withArray(int length, int elements) {
        ObjectCore x = new ObjectCore();
        x.make(1, length);
        for (int index = 0; index < elements; index++) {
            x.define(3, index, 10 + index, ON);
        }
        return x;
    }

    private static void length(String what, ObjectCore x, int value, int flags) {
        Due.is(what + ", LENGTH", x.own(3, LENGTH, 2), value);
        Due.is(what + ", LENGTH flags", x.own(3, LENGTH, 1), flags);
    }

    private static void elementsGrowLength() {
        ObjectCore x = withArray(2, 0);
        Due.is("below", x.define(3, 1, 5, ON), 1);
        length("below", x, 2, 1);
        Due.is("at", x.define(3, 2, 5, ON), 1);
        length("at", x, 3, 1);
        Due.is("above", x.accessor(3, 7, -1, -1, 9), 1);
        length("above", x, 8, 1);
        Due.ends("by put", x, x.put(3, 15, 4, true), Due.RETURNED, 4);
        length("by put", x, 16, 1);
        Due.is("by put, all on", x.own(3, 15, 1), 7);
        Due.is("behind LENGTH in order", x.own(3, 1, 4), 1);
        Due.is("other KEYS do not count", x.define(3, 17, 4, ON), 1);
        length("other KEYS do not count", x, 16, 1);
        x = withArray(2, 0);
        x.define(3, 31, 4, ON);
        length("KEY 31", x, 2, 1);
        x.seal(3, 0);
        Due.is("not EXTENSIBLE", x.define(3, 5, 1, ON), 0);
        length("not EXTENSIBLE", x, 2, 1);
    }

    private static void lengthNotWritable() {
        ObjectCore x = withArray(3, 1);
        Due.is("WRITABLE off", x.define(3, LENGTH, 0, SAYS_W), 1);
        length("WRITABLE off", x, 3, 0);
        Due.is("at", x.define(3, 3, 5, ON), 0);
        Due.is("at, accessor", x.accessor(3, 3, -1, -1, 9), 0);
        Due.ends("at, put", x, x.put(3, 3, 5, false), Due.RETURNED, 5);
        Due.ends("at, put STRICT", x, x.put(3, 3, 5, true), Due.THROWN, Due.TYPE);
        Due.is("none", x.own(3, 3, 0), 0);
        Due.is("below", x.define(3, 2, 5, ON), 1);
        Due.is("less", x.define(3, LENGTH, 0, SAYS_VALUE), 0);
        Due.is("more", x.define(3, LENGTH, 4, SAYS_VALUE), 0);
        Due.is("same", x.define(3, LENGTH, 3, SAYS_VALUE), 1);
        Due.is("on again", x.define(3, LENGTH, 3, SAYS_W | W), 0);
        Due.is("elements stay", x.own(3, 0, 2), 10);
        Due.is("no NUMBER 0..16", x.define(3, LENGTH, 17, SAYS_VALUE), Due.FULL);
        Due.ends("but put FAILS", x, x.put(3, LENGTH, 17, false), Due.RETURNED, 17);
        Due.ends("but put FAILS, STRICT", x, x.put(3, LENGTH, 17, true), Due.THROWN, Due.TYPE);
        Due.ends("put of the same FAILS", x, x.put(3, LENGTH, 3, true), Due.THROWN, Due.TYPE);
        length("as it was", x, 3, 0);
    }

    private static void lengthShrinks() {
        ObjectCore x = withArray(0, 16);
        x.define(3, 20, 1, ON);
        length("16", x, 16, 1);
        Due.is("to 4", x.define(3, LENGTH, 4, SAYS_VALUE), 1);
        length("to 4", x, 4, 1);
        for (int index = 0; index < 16; index++) {
            Due.is("element " + index, x.own(3, index, 0), index < 4 ? 1 : 0);
        }
        Due.is("other KEYS stay", x.own(3, 20, 4), 5);
        Due.is("PROPERTIES", x.of(3, 3), 6);
        Due.is("WRITABLE off with it", x.define(3, LENGTH, 1, SAYS_VALUE | SAYS_W), 1);
        length("WRITABLE off with it", x, 1, 0);
        Due.is("PROPERTIES then", x.of(3, 3), 3);
        x = withArray(0, 3);
        x.define(3, 1, 0, 8);
        Due.ends("by put, to 0", x, x.put(3, LENGTH, 0, true), Due.RETURNED, 0);
        length("by put, to 0", x, 0, 1);
        Due.is("none left", x.of(3, 3), 1);
    }

    private static void lengthShrinksToWhatStays() {
        ObjectCore x = withArray(0, 10);
        x.define(3, 2, 1, SAYS_C);
        x.define(3, 5, 1, SAYS_C);
        Due.is("to 1", x.define(3, LENGTH, 1, SAYS_VALUE), 0);
        length("to 6", x, 6, 1);
        Due.is("5 stays", x.own(3, 5, 0), 1);
        Due.is("4 stays", x.own(3, 4, 0), 1);
        Due.is("6 is gone", x.own(3, 6, 0), 0);
        Due.is("to 6", x.define(3, LENGTH, 6, SAYS_VALUE), 1);
        Due.ends("by put", x, x.put(3, LENGTH, 5, false), Due.RETURNED, 5);
        length("by put", x, 6, 1);
        Due.ends("by put, STRICT", x, x.put(3, LENGTH, 5, true), Due.THROWN, Due.TYPE);
        x.define(3, 15, 1, ON);
        Due.is("WRITABLE off all the same", x.define(3, LENGTH, 0, SAYS_VALUE | SAYS_W | SAYS_E | SAYS_C), 0);
        length("WRITABLE off all the same", x, 6, 0);
        Due.is("15 is gone", x.own(3, 15, 0), 0);
    }

    private static void lengthMayNotBeDefinedSo() {
        ObjectCore x = withArray(0, 5);
        Due.is("CONFIGURABLE on", x.define(3, LENGTH, 1, SAYS_VALUE | SAYS_C | C), 0);
        Due.is("ENUMERABLE on", x.define(3, LENGTH, 1, SAYS_VALUE | SAYS_E | 2), 0);
        Due.is("ENUMERABLE on, greater", x.define(3, LENGTH, 9, SAYS_VALUE | SAYS_E | 2), 0);
        Due.is("an ACCESSOR", x.accessor(3, LENGTH, -1, -1, 1), 0);
        Due.is("neither kind", x.accessor(3, LENGTH, -1, -1, SAYS_E | SAYS_C), 1);
        length("as it was", x, 5, 1);
        Due.is("none goes", x.of(3, 3), 6);
    }

    private static void lengthOutOfRange() {
        long[] wrong = {-1, 17, Integer.MAX_VALUE, Integer.MIN_VALUE, Due.UNDEFINED, Due.NULL, Due.TRUE,
            Due.RANGE, Due.object(0)};
        for (long value : wrong) {
            ObjectCore x = withArray(0, 2);
            Due.is("define " + value, x.define(3, LENGTH, value, SAYS_VALUE), Due.FULL);
            Due.is("RANGE before 0, " + value, x.define(3, LENGTH, value, ON), Due.FULL);
            Due.is("VALUE not said " + value, x.define(3, LENGTH, value, SAYS_E), 1);
            Due.ends("put " + value, x, x.put(3, LENGTH, value, false), Due.THROWN, Due.RANGE);
            Due.ends("put STRICT " + value, x, x.put(3, LENGTH, value, true), Due.THROWN, Due.RANGE);
            length("as it was", x, 2, 1);
        }
        ObjectCore x = withArray(0, 2);
        Due.is("REFUSED before FULL, VALUE", x.define(3, LENGTH, Due.object(9), SAYS_VALUE), Due.REFUSED);
        Due.is("REFUSED before FULL, flags", x.define(3, LENGTH, 17, 128), Due.REFUSED);
    }

    private static void lengthGrows() {
        ObjectCore x = withArray(0, 2);
        Due.is("to 16", x.define(3, LENGTH, 16, SAYS_VALUE), 1);
        length("to 16", x, 16, 1);
        Due.is("no elements", x.of(3, 3), 3);
        Due.is("to 12, WRITABLE off", x.define(3, LENGTH, 12, SAYS_VALUE | SAYS_W), 1);
        length("to 12, WRITABLE off", x, 12, 0);
    }

    private static void sealedArray() {
        ObjectCore x = withArray(0, 4);
        x.seal(3, 1);
        Due.is("to 2", x.define(3, LENGTH, 2, SAYS_VALUE), 0);
        length("4 stays", x, 4, 1);
        Due.is("to 8", x.define(3, LENGTH, 8, SAYS_VALUE), 1);
        Due.is("to 2 from 8", x.define(3, LENGTH, 2, SAYS_VALUE), 0);
        length("4 again", x, 4, 1);
    }

    /** A PLAIN OBJECT with an ARRAY as its PROTOTYPE has no such LENGTH. */
    private static void onlyArrays() {
        ObjectCore x = withArray(0, 2);
        int plain = x.make(0, 3);
        Due.ends("put of LENGTH", x, x.put(plain, LENGTH, 99, true), Due.RETURNED, 99);
        Due.is("its own", x.own(plain, LENGTH, 1), 7);
        length("the ARRAY's", x, 2, 1);
        Due.ends("put of an element", x, x.put(plain, 9, 1, true), Due.RETURNED, 1);
        Due.is("its LENGTH", x.own(plain, LENGTH, 2), 99);
        Due.is("define", x.define(plain, LENGTH, Due.NULL, ON), 1);
        Due.is("remove", x.remove(plain, LENGTH), 1);
        Due.ends("the ARRAY's again", x, x.get(plain, LENGTH), Due.RETURNED, 2);
    }
}
